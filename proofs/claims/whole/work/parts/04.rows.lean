theorem dX0_init_0 : decode cX0_init 0 = .ok (.aload_n 0, 1) := by decide +kernel
theorem dX0_init_1 : decode cX0_init 1 = .ok (.invokespecial 3, 3) := by decide +kernel
theorem dX0_init_4 : decode cX0_init 4 = .ok (.aload_n 0, 1) := by decide +kernel
theorem dX0_init_5 : decode cX0_init 5 = .ok (.bipush 32, 2) := by decide +kernel
theorem dX0_init_7 : decode cX0_init 7 = .ok (.newarray .int, 2) := by decide +kernel
theorem dX0_init_9 : decode cX0_init 9 = .ok (.putfield 9, 3) := by decide +kernel
theorem dX0_init_12 : decode cX0_init 12 = .ok (.aload_n 0, 1) := by decide +kernel
theorem dX0_init_13 : decode cX0_init 13 = .ok (.bipush 8, 2) := by decide +kernel
theorem dX0_init_15 : decode cX0_init 15 = .ok (.newarray .int, 2) := by decide +kernel
theorem dX0_init_17 : decode cX0_init 17 = .ok (.putfield 15, 3) := by decide +kernel
theorem dX0_init_20 : decode cX0_init 20 = .ok (.aload_n 0, 1) := by decide +kernel
theorem dX0_init_21 : decode cX0_init 21 = .ok (.iconst 0, 1) := by decide +kernel
theorem dX0_init_22 : decode cX0_init 22 = .ok (.putfield 18, 3) := by decide +kernel
theorem dX0_init_25 : decode cX0_init 25 = .ok (.aload_n 0, 1) := by decide +kernel
theorem dX0_init_26 : decode cX0_init 26 = .ok (.aconst_null, 1) := by decide +kernel
theorem dX0_init_27 : decode cX0_init 27 = .ok (.putfield 22, 3) := by decide +kernel
theorem dX0_init_30 : decode cX0_init 30 = .ok (.aload_n 0, 1) := by decide +kernel
theorem dX0_init_31 : decode cX0_init 31 = .ok (.aconst_null, 1) := by decide +kernel
theorem dX0_init_32 : decode cX0_init 32 = .ok (.putfield 26, 3) := by decide +kernel
theorem dX0_init_35 : decode cX0_init 35 = .ok (.aload_n 0, 1) := by decide +kernel
theorem dX0_init_36 : decode cX0_init 36 = .ok (.iload_n 1, 1) := by decide +kernel
theorem dX0_init_37 : decode cX0_init 37 = .ok (.putfield 30, 3) := by decide +kernel
theorem dX0_init_40 : decode cX0_init 40 = .ok (.aload_n 0, 1) := by decide +kernel
theorem dX0_init_41 : decode cX0_init 41 = .ok (.iload_n 2, 1) := by decide +kernel
theorem dX0_init_42 : decode cX0_init 42 = .ok (.putfield 33, 3) := by decide +kernel
theorem dX0_init_45 : decode cX0_init 45 = .ok (.aload_n 0, 1) := by decide +kernel
theorem dX0_init_46 : decode cX0_init 46 = .ok (.iload_n 3, 1) := by decide +kernel
theorem dX0_init_47 : decode cX0_init 47 = .ok (.putfield 36, 3) := by decide +kernel
theorem dX0_init_50 : decode cX0_init 50 = .ok (.return_, 1) := by decide +kernel
theorem dX0_weightOf_0 : decode cX0_weightOf 0 = .ok (.aload_n 0, 1) := by decide +kernel
theorem dX0_weightOf_1 : decode cX0_weightOf 1 = .ok (.getfield 9, 3) := by decide +kernel
theorem dX0_weightOf_4 : decode cX0_weightOf 4 = .ok (.iload_n 1, 1) := by decide +kernel
theorem dX0_weightOf_5 : decode cX0_weightOf 5 = .ok (.iconst 4, 1) := by decide +kernel
theorem dX0_weightOf_6 : decode cX0_weightOf 6 = .ok (.imul, 1) := by decide +kernel
theorem dX0_weightOf_7 : decode cX0_weightOf 7 = .ok (.iload_n 2, 1) := by decide +kernel
theorem dX0_weightOf_8 : decode cX0_weightOf 8 = .ok (.iadd, 1) := by decide +kernel
theorem dX0_weightOf_9 : decode cX0_weightOf 9 = .ok (.iaload, 1) := by decide +kernel
theorem dX0_weightOf_10 : decode cX0_weightOf 10 = .ok (.ireturn, 1) := by decide +kernel
theorem dX0_tellWeight_0 : decode cX0_tellWeight 0 = .ok (.aload_n 0, 1) := by decide +kernel
theorem dX0_tellWeight_1 : decode cX0_tellWeight 1 = .ok (.getfield 9, 3) := by decide +kernel
theorem dX0_tellWeight_4 : decode cX0_tellWeight 4 = .ok (.iload_n 1, 1) := by decide +kernel
theorem dX0_tellWeight_5 : decode cX0_tellWeight 5 = .ok (.iconst 4, 1) := by decide +kernel
theorem dX0_tellWeight_6 : decode cX0_tellWeight 6 = .ok (.imul, 1) := by decide +kernel
theorem dX0_tellWeight_7 : decode cX0_tellWeight 7 = .ok (.iload_n 2, 1) := by decide +kernel
theorem dX0_tellWeight_8 : decode cX0_tellWeight 8 = .ok (.iadd, 1) := by decide +kernel
theorem dX0_tellWeight_9 : decode cX0_tellWeight 9 = .ok (.iload_n 3, 1) := by decide +kernel
theorem dX0_tellWeight_10 : decode cX0_tellWeight 10 = .ok (.iastore, 1) := by decide +kernel
theorem dX0_tellWeight_11 : decode cX0_tellWeight 11 = .ok (.return_, 1) := by decide +kernel
theorem dX0_canGoOnTo_0 : decode cX0_canGoOnTo 0 = .ok (.aload_n 1, 1) := by decide +kernel
theorem dX0_canGoOnTo_1 : decode cX0_canGoOnTo 1 = .ok (.getfield 30, 3) := by decide +kernel
theorem dX0_canGoOnTo_4 : decode cX0_canGoOnTo 4 = .ok (.aload_n 0, 1) := by decide +kernel
theorem dX0_canGoOnTo_5 : decode cX0_canGoOnTo 5 = .ok (.getfield 30, 3) := by decide +kernel
theorem dX0_canGoOnTo_8 : decode cX0_canGoOnTo 8 = .ok (.if_icmp .le 18, 3) := by decide +kernel
theorem dX0_canGoOnTo_11 : decode cX0_canGoOnTo 11 = .ok (.aload_n 1, 1) := by decide +kernel
theorem dX0_canGoOnTo_12 : decode cX0_canGoOnTo 12 = .ok (.getfield 33, 3) := by decide +kernel
theorem dX0_canGoOnTo_15 : decode cX0_canGoOnTo 15 = .ok (.aload_n 0, 1) := by decide +kernel
theorem dX0_canGoOnTo_16 : decode cX0_canGoOnTo 16 = .ok (.getfield 36, 3) := by decide +kernel
theorem dX0_canGoOnTo_19 : decode cX0_canGoOnTo 19 = .ok (.if_icmp .lt 7, 3) := by decide +kernel
theorem dX0_canGoOnTo_22 : decode cX0_canGoOnTo 22 = .ok (.iconst 1, 1) := by decide +kernel
theorem dX0_canGoOnTo_23 : decode cX0_canGoOnTo 23 = .ok (.goto 4, 3) := by decide +kernel
theorem dX0_canGoOnTo_26 : decode cX0_canGoOnTo 26 = .ok (.iconst 0, 1) := by decide +kernel
theorem dX0_canGoOnTo_27 : decode cX0_canGoOnTo 27 = .ok (.ireturn, 1) := by decide +kernel
theorem dX0_columns_0 : decode cX0_columns 0 = .ok (.iconst 4, 1) := by decide +kernel
theorem dX0_columns_1 : decode cX0_columns 1 = .ok (.aload_n 0, 1) := by decide +kernel
theorem dX0_columns_2 : decode cX0_columns 2 = .ok (.getfield 36, 3) := by decide +kernel
theorem dX0_columns_5 : decode cX0_columns 5 = .ok (.imul, 1) := by decide +kernel
theorem dX0_columns_6 : decode cX0_columns 6 = .ok (.ireturn, 1) := by decide +kernel
set_option maxRecDepth 20000 in
theorem ggX0_needed_X0_weightOf : GoodIn wsX0_needed wsX0_weightOf := goodIn_r _ [5, 6, 7, 8, 9, 10, 11, 12, 13, 14] (by decide +kernel) (by decide +kernel)
set_option maxRecDepth 20000 in
theorem gX0_needed_X0_weightOf : GoodIn wsX0_needed (wsV RX0 39 RX0 yX0_weightOf wsX0_weightOf) := goodIn_app (goodIn_of _ (by decide +kernel)) ggX0_needed_X0_weightOf
theorem dX0_needed_0 : decode cX0_needed 0 = .ok (.aload_n 0, 1) := by decide +kernel
theorem dX0_needed_1 : decode cX0_needed 1 = .ok (.iload_n 1, 1) := by decide +kernel
theorem dX0_needed_2 : decode cX0_needed 2 = .ok (.iload_n 2, 1) := by decide +kernel
theorem dX0_needed_3 : decode cX0_needed 3 = .ok (.iconst 4, 1) := by decide +kernel
theorem dX0_needed_4 : decode cX0_needed 4 = .ok (.idiv, 1) := by decide +kernel
theorem dX0_needed_5 : decode cX0_needed 5 = .ok (.invokevirtual 39, 3) := by decide +kernel
theorem dX0_needed_8 : decode cX0_needed 8 = .ok (.getstatic 43, 3) := by decide +kernel
theorem dX0_needed_11 : decode cX0_needed 11 = .ok (.iload_n 2, 1) := by decide +kernel
theorem dX0_needed_12 : decode cX0_needed 12 = .ok (.iconst 4, 1) := by decide +kernel
theorem dX0_needed_13 : decode cX0_needed 13 = .ok (.irem, 1) := by decide +kernel
theorem dX0_needed_14 : decode cX0_needed 14 = .ok (.iaload, 1) := by decide +kernel
theorem dX0_needed_15 : decode cX0_needed 15 = .ok (.ifCond .ge 7, 3) := by decide +kernel
theorem dX0_needed_18 : decode cX0_needed 18 = .ok (.iconst (-1), 1) := by decide +kernel
theorem dX0_needed_19 : decode cX0_needed 19 = .ok (.goto 4, 3) := by decide +kernel
theorem dX0_needed_22 : decode cX0_needed 22 = .ok (.iconst 1, 1) := by decide +kernel
theorem dX0_needed_23 : decode cX0_needed 23 = .ok (.imul, 1) := by decide +kernel
theorem dX0_needed_24 : decode cX0_needed 24 = .ok (.istore_n 3, 1) := by decide +kernel
theorem dX0_needed_25 : decode cX0_needed 25 = .ok (.iload_n 3, 1) := by decide +kernel
theorem dX0_needed_26 : decode cX0_needed 26 = .ok (.ifCond .ge 5, 3) := by decide +kernel
theorem dX0_needed_29 : decode cX0_needed 29 = .ok (.iconst 0, 1) := by decide +kernel
theorem dX0_needed_30 : decode cX0_needed 30 = .ok (.ireturn, 1) := by decide +kernel
theorem dX0_needed_31 : decode cX0_needed 31 = .ok (.iload_n 2, 1) := by decide +kernel
theorem dX0_needed_32 : decode cX0_needed 32 = .ok (.iconst 2, 1) := by decide +kernel
theorem dX0_needed_33 : decode cX0_needed 33 = .ok (.irem, 1) := by decide +kernel
theorem dX0_needed_34 : decode cX0_needed 34 = .ok (.ifCond .ne 10, 3) := by decide +kernel
theorem dX0_needed_37 : decode cX0_needed 37 = .ok (.iload_n 3, 1) := by decide +kernel
theorem dX0_needed_38 : decode cX0_needed 38 = .ok (.bipush 16, 2) := by decide +kernel
theorem dX0_needed_40 : decode cX0_needed 40 = .ok (.irem, 1) := by decide +kernel
theorem dX0_needed_41 : decode cX0_needed 41 = .ok (.goto 7, 3) := by decide +kernel
theorem dX0_needed_44 : decode cX0_needed 44 = .ok (.iload_n 3, 1) := by decide +kernel
theorem dX0_needed_45 : decode cX0_needed 45 = .ok (.bipush 16, 2) := by decide +kernel
theorem dX0_needed_47 : decode cX0_needed 47 = .ok (.idiv, 1) := by decide +kernel
theorem dX0_needed_48 : decode cX0_needed 48 = .ok (.ireturn, 1) := by decide +kernel
set_option maxRecDepth 20000 in
theorem ggX0_writeOn_X0_columns : GoodIn wsX0_writeOn wsX0_columns := goodIn_r _ [7, 8, 48, 49, 50, 51, 52, 53, 54, 55] (by decide +kernel) (by decide +kernel)
set_option maxRecDepth 20000 in
theorem gX0_writeOn_X0_columns : GoodIn wsX0_writeOn (wsV RX0 46 RX0 yX0_columns wsX0_columns) := goodIn_app (goodIn_of _ (by decide +kernel)) ggX0_writeOn_X0_columns
set_option maxRecDepth 20000 in
theorem ggX0_writeOn_X0_needed : GoodIn wsX0_writeOn wsX0_needed := goodIn_r _ [12, 13, 14, 15, 6, 16, 17, 48, 49, 50, 51, 52, 53, 54, 55] (by decide +kernel) (by decide +kernel)
set_option maxRecDepth 20000 in
theorem gX0_writeOn_X0_needed : GoodIn wsX0_writeOn (wsV RX0 50 RX0 yX0_needed wsX0_needed) := goodIn_app (goodIn_of _ (by decide +kernel)) ggX0_writeOn_X0_needed
set_option maxRecDepth 20000 in
theorem ggX0_writeOn_X4_failsToWrite : GoodIn wsX0_writeOn wsX4_failsToWrite := goodIn_r _ [22, 23, 24, 25, 26, 27, 28, 29, 30, 31, 32, 33, 34, 21, 35, 36, 37, 38, 39, 40, 41, 42, 43, 44, 45, 46, 47, 56, 57, 58, 59, 60, 61, 62, 63, 64, 65, 66, 67, 68, 69, 70] (by decide +kernel) (by decide +kernel)
set_option maxRecDepth 20000 in
theorem gX0_writeOn_X4_failsToWrite : GoodIn wsX0_writeOn (wsV RX0 53 RX4 yX4_failsToWrite wsX4_failsToWrite) := goodIn_app (goodIn_of _ (by decide +kernel)) ggX0_writeOn_X4_failsToWrite
theorem dX0_writeOn_0 : decode cX0_writeOn 0 = .ok (.iconst 0, 1) := by decide +kernel
theorem dX0_writeOn_1 : decode cX0_writeOn 1 = .ok (.istore_n 3, 1) := by decide +kernel
theorem dX0_writeOn_2 : decode cX0_writeOn 2 = .ok (.iconst 0, 1) := by decide +kernel
theorem dX0_writeOn_3 : decode cX0_writeOn 3 = .ok (.istore 4, 2) := by decide +kernel
theorem dX0_writeOn_5 : decode cX0_writeOn 5 = .ok (.iload 4, 2) := by decide +kernel
theorem dX0_writeOn_7 : decode cX0_writeOn 7 = .ok (.aload_n 0, 1) := by decide +kernel
theorem dX0_writeOn_8 : decode cX0_writeOn 8 = .ok (.getfield 33, 3) := by decide +kernel
theorem dX0_writeOn_11 : decode cX0_writeOn 11 = .ok (.if_icmp .ge 55, 3) := by decide +kernel
theorem dX0_writeOn_14 : decode cX0_writeOn 14 = .ok (.iconst 0, 1) := by decide +kernel
theorem dX0_writeOn_15 : decode cX0_writeOn 15 = .ok (.istore 5, 2) := by decide +kernel
theorem dX0_writeOn_17 : decode cX0_writeOn 17 = .ok (.iload 5, 2) := by decide +kernel
theorem dX0_writeOn_19 : decode cX0_writeOn 19 = .ok (.aload_n 0, 1) := by decide +kernel
theorem dX0_writeOn_20 : decode cX0_writeOn 20 = .ok (.invokevirtual 46, 3) := by decide +kernel
theorem dX0_writeOn_23 : decode cX0_writeOn 23 = .ok (.if_icmp .ge 37, 3) := by decide +kernel
theorem dX0_writeOn_26 : decode cX0_writeOn 26 = .ok (.aload_n 1, 1) := by decide +kernel
theorem dX0_writeOn_27 : decode cX0_writeOn 27 = .ok (.aload_n 0, 1) := by decide +kernel
theorem dX0_writeOn_28 : decode cX0_writeOn 28 = .ok (.getfield 15, 3) := by decide +kernel
theorem dX0_writeOn_31 : decode cX0_writeOn 31 = .ok (.iload 4, 2) := by decide +kernel
theorem dX0_writeOn_33 : decode cX0_writeOn 33 = .ok (.iaload, 1) := by decide +kernel
theorem dX0_writeOn_34 : decode cX0_writeOn 34 = .ok (.iload 5, 2) := by decide +kernel
theorem dX0_writeOn_36 : decode cX0_writeOn 36 = .ok (.aload_n 0, 1) := by decide +kernel
theorem dX0_writeOn_37 : decode cX0_writeOn 37 = .ok (.iload 4, 2) := by decide +kernel
theorem dX0_writeOn_39 : decode cX0_writeOn 39 = .ok (.iload 5, 2) := by decide +kernel
theorem dX0_writeOn_41 : decode cX0_writeOn 41 = .ok (.invokevirtual 50, 3) := by decide +kernel
theorem dX0_writeOn_44 : decode cX0_writeOn 44 = .ok (.aload_n 2, 1) := by decide +kernel
theorem dX0_writeOn_45 : decode cX0_writeOn 45 = .ok (.invokevirtual 53, 3) := by decide +kernel
theorem dX0_writeOn_48 : decode cX0_writeOn 48 = .ok (.ifCond .eq 6, 3) := by decide +kernel
theorem dX0_writeOn_51 : decode cX0_writeOn 51 = .ok (.iinc 3 1, 3) := by decide +kernel
theorem dX0_writeOn_54 : decode cX0_writeOn 54 = .ok (.iinc 5 1, 3) := by decide +kernel
theorem dX0_writeOn_57 : decode cX0_writeOn 57 = .ok (.goto (-40), 3) := by decide +kernel
theorem dX0_writeOn_60 : decode cX0_writeOn 60 = .ok (.iinc 4 1, 3) := by decide +kernel
theorem dX0_writeOn_63 : decode cX0_writeOn 63 = .ok (.goto (-58), 3) := by decide +kernel
theorem dX0_writeOn_66 : decode cX0_writeOn 66 = .ok (.iload_n 3, 1) := by decide +kernel
theorem dX0_writeOn_67 : decode cX0_writeOn 67 = .ok (.ireturn, 1) := by decide +kernel
set_option maxRecDepth 20000 in
theorem ggX0_conductsAsNeeded_X0_columns : GoodIn wsX0_conductsAsNeeded wsX0_columns := goodIn_r _ [7, 8, 37, 38, 39, 40, 41, 42, 43, 44] (by decide +kernel) (by decide +kernel)
set_option maxRecDepth 20000 in
theorem gX0_conductsAsNeeded_X0_columns : GoodIn wsX0_conductsAsNeeded (wsV RX0 46 RX0 yX0_columns wsX0_columns) := goodIn_app (goodIn_of _ (by decide +kernel)) ggX0_conductsAsNeeded_X0_columns
set_option maxRecDepth 20000 in
theorem ggX0_conductsAsNeeded_X4_conducted : GoodIn wsX0_conductsAsNeeded wsX4_conducted := goodIn_r _ [13, 14, 15, 16, 17, 18, 19, 20, 21, 22, 23, 24, 25, 26, 27, 45, 46, 47, 48, 49, 50, 51, 52, 53, 54, 55, 56, 57, 58, 59] (by decide +kernel) (by decide +kernel)
set_option maxRecDepth 20000 in
theorem gX0_conductsAsNeeded_X4_conducted : GoodIn wsX0_conductsAsNeeded (wsV RX0 59 RX4 yX4_conducted wsX4_conducted) := goodIn_app (goodIn_of _ (by decide +kernel)) ggX0_conductsAsNeeded_X4_conducted
set_option maxRecDepth 20000 in
theorem ggX0_conductsAsNeeded_X0_needed : GoodIn wsX0_conductsAsNeeded wsX0_needed := goodIn_r _ [31, 32, 33, 34, 6, 35, 36, 37, 38, 39, 40, 41, 42, 43, 44] (by decide +kernel) (by decide +kernel)
set_option maxRecDepth 20000 in
theorem gX0_conductsAsNeeded_X0_needed : GoodIn wsX0_conductsAsNeeded (wsV RX0 50 RX0 yX0_needed wsX0_needed) := goodIn_app (goodIn_of _ (by decide +kernel)) ggX0_conductsAsNeeded_X0_needed
theorem dX0_conductsAsNeeded_0 : decode cX0_conductsAsNeeded 0 = .ok (.iconst 0, 1) := by decide +kernel
theorem dX0_conductsAsNeeded_1 : decode cX0_conductsAsNeeded 1 = .ok (.istore_n 3, 1) := by decide +kernel
theorem dX0_conductsAsNeeded_2 : decode cX0_conductsAsNeeded 2 = .ok (.iload_n 3, 1) := by decide +kernel
theorem dX0_conductsAsNeeded_3 : decode cX0_conductsAsNeeded 3 = .ok (.aload_n 0, 1) := by decide +kernel
theorem dX0_conductsAsNeeded_4 : decode cX0_conductsAsNeeded 4 = .ok (.getfield 33, 3) := by decide +kernel
theorem dX0_conductsAsNeeded_7 : decode cX0_conductsAsNeeded 7 = .ok (.if_icmp .ge 52, 3) := by decide +kernel
theorem dX0_conductsAsNeeded_10 : decode cX0_conductsAsNeeded 10 = .ok (.iconst 0, 1) := by decide +kernel
theorem dX0_conductsAsNeeded_11 : decode cX0_conductsAsNeeded 11 = .ok (.istore 4, 2) := by decide +kernel
theorem dX0_conductsAsNeeded_13 : decode cX0_conductsAsNeeded 13 = .ok (.iload 4, 2) := by decide +kernel
theorem dX0_conductsAsNeeded_15 : decode cX0_conductsAsNeeded 15 = .ok (.aload_n 0, 1) := by decide +kernel
theorem dX0_conductsAsNeeded_16 : decode cX0_conductsAsNeeded 16 = .ok (.invokevirtual 46, 3) := by decide +kernel
theorem dX0_conductsAsNeeded_19 : decode cX0_conductsAsNeeded 19 = .ok (.if_icmp .ge 34, 3) := by decide +kernel
theorem dX0_conductsAsNeeded_22 : decode cX0_conductsAsNeeded 22 = .ok (.aload_n 1, 1) := by decide +kernel
theorem dX0_conductsAsNeeded_23 : decode cX0_conductsAsNeeded 23 = .ok (.aload_n 0, 1) := by decide +kernel
theorem dX0_conductsAsNeeded_24 : decode cX0_conductsAsNeeded 24 = .ok (.getfield 15, 3) := by decide +kernel
theorem dX0_conductsAsNeeded_27 : decode cX0_conductsAsNeeded 27 = .ok (.iload_n 3, 1) := by decide +kernel
theorem dX0_conductsAsNeeded_28 : decode cX0_conductsAsNeeded 28 = .ok (.iaload, 1) := by decide +kernel
theorem dX0_conductsAsNeeded_29 : decode cX0_conductsAsNeeded 29 = .ok (.iload 4, 2) := by decide +kernel
theorem dX0_conductsAsNeeded_31 : decode cX0_conductsAsNeeded 31 = .ok (.aload_n 2, 1) := by decide +kernel
theorem dX0_conductsAsNeeded_32 : decode cX0_conductsAsNeeded 32 = .ok (.invokevirtual 59, 3) := by decide +kernel
theorem dX0_conductsAsNeeded_35 : decode cX0_conductsAsNeeded 35 = .ok (.aload_n 0, 1) := by decide +kernel
theorem dX0_conductsAsNeeded_36 : decode cX0_conductsAsNeeded 36 = .ok (.iload_n 3, 1) := by decide +kernel
theorem dX0_conductsAsNeeded_37 : decode cX0_conductsAsNeeded 37 = .ok (.iload 4, 2) := by decide +kernel
theorem dX0_conductsAsNeeded_39 : decode cX0_conductsAsNeeded 39 = .ok (.invokevirtual 50, 3) := by decide +kernel
theorem dX0_conductsAsNeeded_42 : decode cX0_conductsAsNeeded 42 = .ok (.if_icmp .eq 5, 3) := by decide +kernel
theorem dX0_conductsAsNeeded_45 : decode cX0_conductsAsNeeded 45 = .ok (.iconst 0, 1) := by decide +kernel
theorem dX0_conductsAsNeeded_46 : decode cX0_conductsAsNeeded 46 = .ok (.ireturn, 1) := by decide +kernel
theorem dX0_conductsAsNeeded_47 : decode cX0_conductsAsNeeded 47 = .ok (.iinc 4 1, 3) := by decide +kernel
theorem dX0_conductsAsNeeded_50 : decode cX0_conductsAsNeeded 50 = .ok (.goto (-37), 3) := by decide +kernel
theorem dX0_conductsAsNeeded_53 : decode cX0_conductsAsNeeded 53 = .ok (.iinc 3 1, 3) := by decide +kernel
theorem dX0_conductsAsNeeded_56 : decode cX0_conductsAsNeeded 56 = .ok (.goto (-54), 3) := by decide +kernel
theorem dX0_conductsAsNeeded_59 : decode cX0_conductsAsNeeded 59 = .ok (.iconst 1, 1) := by decide +kernel
theorem dX0_conductsAsNeeded_60 : decode cX0_conductsAsNeeded 60 = .ok (.ireturn, 1) := by decide +kernel
set_option maxRecDepth 20000 in
theorem ggX0_misfitsIn_X0_columns : GoodIn wsX0_misfitsIn wsX0_columns := goodIn_r _ [5, 6, 26, 27, 28, 29, 30, 31, 32, 33] (by decide +kernel) (by decide +kernel)
set_option maxRecDepth 20000 in
theorem gX0_misfitsIn_X0_columns : GoodIn wsX0_misfitsIn (wsV RX0 46 RX0 yX0_columns wsX0_columns) := goodIn_app (goodIn_of _ (by decide +kernel)) ggX0_misfitsIn_X0_columns
set_option maxRecDepth 20000 in
theorem ggX0_misfitsIn_X0_needed : GoodIn wsX0_misfitsIn wsX0_needed := goodIn_r _ [10, 11, 12, 13, 4, 14, 15, 26, 27, 28, 29, 30, 31, 32, 33] (by decide +kernel) (by decide +kernel)
set_option maxRecDepth 20000 in
theorem gX0_misfitsIn_X0_needed : GoodIn wsX0_misfitsIn (wsV RX0 50 RX0 yX0_needed wsX0_needed) := goodIn_app (goodIn_of _ (by decide +kernel)) ggX0_misfitsIn_X0_needed
set_option maxRecDepth 20000 in
theorem ggX0_misfitsIn_X4_isMisfit : GoodIn wsX0_misfitsIn wsX4_isMisfit := goodIn_r _ [20, 21, 22, 23, 24, 25, 34, 35, 36, 37, 38, 39, 40, 41, 42, 43, 44, 45] (by decide +kernel) (by decide +kernel)
set_option maxRecDepth 20000 in
theorem gX0_misfitsIn_X4_isMisfit : GoodIn wsX0_misfitsIn (wsV RX0 63 RX4 yX4_isMisfit wsX4_isMisfit) := goodIn_app (goodIn_of _ (by decide +kernel)) ggX0_misfitsIn_X4_isMisfit
theorem dX0_misfitsIn_0 : decode cX0_misfitsIn 0 = .ok (.iconst 0, 1) := by decide +kernel
theorem dX0_misfitsIn_1 : decode cX0_misfitsIn 1 = .ok (.istore 4, 2) := by decide +kernel
theorem dX0_misfitsIn_3 : decode cX0_misfitsIn 3 = .ok (.iconst 0, 1) := by decide +kernel
theorem dX0_misfitsIn_4 : decode cX0_misfitsIn 4 = .ok (.istore 5, 2) := by decide +kernel
theorem dX0_misfitsIn_6 : decode cX0_misfitsIn 6 = .ok (.iload 5, 2) := by decide +kernel
theorem dX0_misfitsIn_8 : decode cX0_misfitsIn 8 = .ok (.aload_n 0, 1) := by decide +kernel
theorem dX0_misfitsIn_9 : decode cX0_misfitsIn 9 = .ok (.invokevirtual 46, 3) := by decide +kernel
theorem dX0_misfitsIn_12 : decode cX0_misfitsIn 12 = .ok (.if_icmp .ge 29, 3) := by decide +kernel
theorem dX0_misfitsIn_15 : decode cX0_misfitsIn 15 = .ok (.aload_n 1, 1) := by decide +kernel
theorem dX0_misfitsIn_16 : decode cX0_misfitsIn 16 = .ok (.iload_n 3, 1) := by decide +kernel
theorem dX0_misfitsIn_17 : decode cX0_misfitsIn 17 = .ok (.iload 5, 2) := by decide +kernel
theorem dX0_misfitsIn_19 : decode cX0_misfitsIn 19 = .ok (.aload_n 0, 1) := by decide +kernel
theorem dX0_misfitsIn_20 : decode cX0_misfitsIn 20 = .ok (.iload_n 2, 1) := by decide +kernel
theorem dX0_misfitsIn_21 : decode cX0_misfitsIn 21 = .ok (.iload 5, 2) := by decide +kernel
theorem dX0_misfitsIn_23 : decode cX0_misfitsIn 23 = .ok (.invokevirtual 50, 3) := by decide +kernel
theorem dX0_misfitsIn_26 : decode cX0_misfitsIn 26 = .ok (.invokevirtual 63, 3) := by decide +kernel
theorem dX0_misfitsIn_29 : decode cX0_misfitsIn 29 = .ok (.ifCond .eq 6, 3) := by decide +kernel
theorem dX0_misfitsIn_32 : decode cX0_misfitsIn 32 = .ok (.iinc 4 1, 3) := by decide +kernel
theorem dX0_misfitsIn_35 : decode cX0_misfitsIn 35 = .ok (.iinc 5 1, 3) := by decide +kernel
theorem dX0_misfitsIn_38 : decode cX0_misfitsIn 38 = .ok (.goto (-32), 3) := by decide +kernel
theorem dX0_misfitsIn_41 : decode cX0_misfitsIn 41 = .ok (.iload 4, 2) := by decide +kernel
theorem dX0_misfitsIn_43 : decode cX0_misfitsIn 43 = .ok (.ireturn, 1) := by decide +kernel
set_option maxRecDepth 20000 in
theorem ggX0_answerOn_X0_currentOn : GoodIn wsX0_answerOn wsX0_currentOn := goodIn_r _ [5, 6, 7, 8, 9, 10, 11, 12, 13, 14, 15, 16, 17, 18, 19, 20, 21, 22, 23, 24, 25, 26, 27, 28, 40, 41, 42, 43, 44, 45, 46, 47, 48, 49, 50, 51, 52, 53, 54, 55, 56, 57, 58, 59, 60, 61, 62] (by decide +kernel) (by decide +kernel)
set_option maxRecDepth 20000 in
theorem gX0_answerOn_X0_currentOn : GoodIn wsX0_answerOn (wsV RX0 67 RX0 yX0_currentOn wsX0_currentOn) := goodIn_app (goodIn_of _ (by decide +kernel)) ggX0_answerOn_X0_currentOn
set_option maxRecDepth 20000 in
theorem ggX0_answerOn_X4_read : GoodIn wsX0_answerOn wsX4_read := goodIn_r _ [32, 33, 34, 21, 22, 23, 24, 35, 36, 37, 38, 39, 27, 9, 28, 51, 52, 53, 54, 55, 56, 57, 58, 59, 60, 61, 62] (by decide +kernel) (by decide +kernel)
set_option maxRecDepth 20000 in
theorem gX0_answerOn_X4_read : GoodIn wsX0_answerOn (wsV RX0 71 RX4 yX4_read wsX4_read) := goodIn_app (goodIn_of _ (by decide +kernel)) ggX0_answerOn_X4_read
theorem dX0_answerOn_0 : decode cX0_answerOn 0 = .ok (.iconst 0, 1) := by decide +kernel
theorem dX0_answerOn_1 : decode cX0_answerOn 1 = .ok (.istore 6, 2) := by decide +kernel
theorem dX0_answerOn_3 : decode cX0_answerOn 3 = .ok (.iconst 0, 1) := by decide +kernel
theorem dX0_answerOn_4 : decode cX0_answerOn 4 = .ok (.istore 7, 2) := by decide +kernel
theorem dX0_answerOn_6 : decode cX0_answerOn 6 = .ok (.iload 7, 2) := by decide +kernel
theorem dX0_answerOn_8 : decode cX0_answerOn 8 = .ok (.bipush 8, 2) := by decide +kernel
theorem dX0_answerOn_10 : decode cX0_answerOn 10 = .ok (.if_icmp .ge 71, 3) := by decide +kernel
theorem dX0_answerOn_13 : decode cX0_answerOn 13 = .ok (.iconst 0, 1) := by decide +kernel
theorem dX0_answerOn_14 : decode cX0_answerOn 14 = .ok (.istore 8, 2) := by decide +kernel
theorem dX0_answerOn_16 : decode cX0_answerOn 16 = .ok (.iload 8, 2) := by decide +kernel
theorem dX0_answerOn_18 : decode cX0_answerOn 18 = .ok (.iconst 4, 1) := by decide +kernel
theorem dX0_answerOn_19 : decode cX0_answerOn 19 = .ok (.if_icmp .ge 56, 3) := by decide +kernel
theorem dX0_answerOn_22 : decode cX0_answerOn 22 = .ok (.iload 4, 2) := by decide +kernel
theorem dX0_answerOn_24 : decode cX0_answerOn 24 = .ok (.iconst 4, 1) := by decide +kernel
theorem dX0_answerOn_25 : decode cX0_answerOn 25 = .ok (.imul, 1) := by decide +kernel
theorem dX0_answerOn_26 : decode cX0_answerOn 26 = .ok (.iload 8, 2) := by decide +kernel
theorem dX0_answerOn_28 : decode cX0_answerOn 28 = .ok (.iadd, 1) := by decide +kernel
theorem dX0_answerOn_29 : decode cX0_answerOn 29 = .ok (.istore 9, 2) := by decide +kernel
theorem dX0_answerOn_31 : decode cX0_answerOn 31 = .ok (.aload_n 0, 1) := by decide +kernel
theorem dX0_answerOn_32 : decode cX0_answerOn 32 = .ok (.aload_n 1, 1) := by decide +kernel
theorem dX0_answerOn_33 : decode cX0_answerOn 33 = .ok (.lload_n 2, 1) := by decide +kernel
theorem dX0_answerOn_34 : decode cX0_answerOn 34 = .ok (.iload 7, 2) := by decide +kernel
theorem dX0_answerOn_36 : decode cX0_answerOn 36 = .ok (.lshr, 1) := by decide +kernel
theorem dX0_answerOn_37 : decode cX0_answerOn 37 = .ok (.iload 9, 2) := by decide +kernel
theorem dX0_answerOn_39 : decode cX0_answerOn 39 = .ok (.aload 5, 2) := by decide +kernel
theorem dX0_answerOn_41 : decode cX0_answerOn 41 = .ok (.invokevirtual 67, 3) := by decide +kernel
theorem dX0_answerOn_44 : decode cX0_answerOn 44 = .ok (.istore 10, 2) := by decide +kernel
theorem dX0_answerOn_46 : decode cX0_answerOn 46 = .ok (.iload 6, 2) := by decide +kernel
theorem dX0_answerOn_48 : decode cX0_answerOn 48 = .ok (.getstatic 43, 3) := by decide +kernel
theorem dX0_answerOn_51 : decode cX0_answerOn 51 = .ok (.iload 8, 2) := by decide +kernel
theorem dX0_answerOn_53 : decode cX0_answerOn 53 = .ok (.iaload, 1) := by decide +kernel
theorem dX0_answerOn_54 : decode cX0_answerOn 54 = .ok (.aload_n 1, 1) := by decide +kernel
theorem dX0_answerOn_55 : decode cX0_answerOn 55 = .ok (.iload 9, 2) := by decide +kernel
theorem dX0_answerOn_57 : decode cX0_answerOn 57 = .ok (.iload 10, 2) := by decide +kernel
theorem dX0_answerOn_59 : decode cX0_answerOn 59 = .ok (.invokevirtual 71, 3) := by decide +kernel
theorem dX0_answerOn_62 : decode cX0_answerOn 62 = .ok (.imul, 1) := by decide +kernel
theorem dX0_answerOn_63 : decode cX0_answerOn 63 = .ok (.iload 7, 2) := by decide +kernel
theorem dX0_answerOn_65 : decode cX0_answerOn 65 = .ok (.ishl, 1) := by decide +kernel
theorem dX0_answerOn_66 : decode cX0_answerOn 66 = .ok (.iadd, 1) := by decide +kernel
theorem dX0_answerOn_67 : decode cX0_answerOn 67 = .ok (.istore 6, 2) := by decide +kernel
theorem dX0_answerOn_69 : decode cX0_answerOn 69 = .ok (.iinc 8 1, 3) := by decide +kernel
theorem dX0_answerOn_72 : decode cX0_answerOn 72 = .ok (.goto (-56), 3) := by decide +kernel
theorem dX0_answerOn_75 : decode cX0_answerOn 75 = .ok (.iinc 7 1, 3) := by decide +kernel
theorem dX0_answerOn_78 : decode cX0_answerOn 78 = .ok (.goto (-72), 3) := by decide +kernel
theorem dX0_answerOn_81 : decode cX0_answerOn 81 = .ok (.iload 6, 2) := by decide +kernel
theorem dX0_answerOn_83 : decode cX0_answerOn 83 = .ok (.ireturn, 1) := by decide +kernel
set_option maxRecDepth 20000 in
theorem ggX0_currentOn_X5_inputOf : GoodIn wsX0_currentOn wsX5_inputOf := goodIn_r _ [5] (by decide +kernel) (by decide +kernel)
set_option maxRecDepth 20000 in
theorem gX0_currentOn_X5_inputOf_n74 : GoodIn wsX0_currentOn (wsX5_inputOf) := ggX0_currentOn_X5_inputOf
set_option maxRecDepth 20000 in
theorem ggX0_currentOn_X4_conducted : GoodIn wsX0_currentOn wsX4_conducted := goodIn_r _ [10, 11, 12, 13, 14, 15, 16, 17, 18, 19, 20, 4, 21, 22, 23, 32, 33, 34, 35, 36, 37, 38, 39, 40, 41, 42, 43, 44, 45, 46] (by decide +kernel) (by decide +kernel)
set_option maxRecDepth 20000 in
theorem gX0_currentOn_X4_conducted : GoodIn wsX0_currentOn (wsV RX0 59 RX4 yX4_conducted wsX4_conducted) := goodIn_app (goodIn_of _ (by decide +kernel)) ggX0_currentOn_X4_conducted
theorem dX0_currentOn_0 : decode cX0_currentOn 0 = .ok (.iconst 0, 1) := by decide +kernel
theorem dX0_currentOn_1 : decode cX0_currentOn 1 = .ok (.istore 6, 2) := by decide +kernel
theorem dX0_currentOn_3 : decode cX0_currentOn 3 = .ok (.iconst 0, 1) := by decide +kernel
theorem dX0_currentOn_4 : decode cX0_currentOn 4 = .ok (.istore 7, 2) := by decide +kernel
theorem dX0_currentOn_6 : decode cX0_currentOn 6 = .ok (.iload 7, 2) := by decide +kernel
theorem dX0_currentOn_8 : decode cX0_currentOn 8 = .ok (.aload_n 0, 1) := by decide +kernel
theorem dX0_currentOn_9 : decode cX0_currentOn 9 = .ok (.getfield 33, 3) := by decide +kernel
theorem dX0_currentOn_12 : decode cX0_currentOn 12 = .ok (.if_icmp .ge 41, 3) := by decide +kernel
theorem dX0_currentOn_15 : decode cX0_currentOn 15 = .ok (.lload_n 2, 1) := by decide +kernel
theorem dX0_currentOn_16 : decode cX0_currentOn 16 = .ok (.iload 7, 2) := by decide +kernel
theorem dX0_currentOn_18 : decode cX0_currentOn 18 = .ok (.invokestatic 74, 3) := by decide +kernel
theorem dX0_currentOn_21 : decode cX0_currentOn 21 = .ok (.iconst 1, 1) := by decide +kernel
theorem dX0_currentOn_22 : decode cX0_currentOn 22 = .ok (.iand, 1) := by decide +kernel
theorem dX0_currentOn_23 : decode cX0_currentOn 23 = .ok (.iconst 1, 1) := by decide +kernel
theorem dX0_currentOn_24 : decode cX0_currentOn 24 = .ok (.if_icmp .ne 23, 3) := by decide +kernel
theorem dX0_currentOn_27 : decode cX0_currentOn 27 = .ok (.iload 6, 2) := by decide +kernel
theorem dX0_currentOn_29 : decode cX0_currentOn 29 = .ok (.aload_n 1, 1) := by decide +kernel
theorem dX0_currentOn_30 : decode cX0_currentOn 30 = .ok (.aload_n 0, 1) := by decide +kernel
theorem dX0_currentOn_31 : decode cX0_currentOn 31 = .ok (.getfield 15, 3) := by decide +kernel
theorem dX0_currentOn_34 : decode cX0_currentOn 34 = .ok (.iload 7, 2) := by decide +kernel
theorem dX0_currentOn_36 : decode cX0_currentOn 36 = .ok (.iaload, 1) := by decide +kernel
theorem dX0_currentOn_37 : decode cX0_currentOn 37 = .ok (.iload 4, 2) := by decide +kernel
theorem dX0_currentOn_39 : decode cX0_currentOn 39 = .ok (.aload 5, 2) := by decide +kernel
theorem dX0_currentOn_41 : decode cX0_currentOn 41 = .ok (.invokevirtual 59, 3) := by decide +kernel
theorem dX0_currentOn_44 : decode cX0_currentOn 44 = .ok (.iadd, 1) := by decide +kernel
theorem dX0_currentOn_45 : decode cX0_currentOn 45 = .ok (.istore 6, 2) := by decide +kernel
theorem dX0_currentOn_47 : decode cX0_currentOn 47 = .ok (.iinc 7 1, 3) := by decide +kernel
theorem dX0_currentOn_50 : decode cX0_currentOn 50 = .ok (.goto (-44), 3) := by decide +kernel
theorem dX0_currentOn_53 : decode cX0_currentOn 53 = .ok (.iload 6, 2) := by decide +kernel
theorem dX0_currentOn_55 : decode cX0_currentOn 55 = .ok (.ireturn, 1) := by decide +kernel
set_option maxRecDepth 20000 in
theorem ggX0_idealAnswer_X0_weightOf : GoodIn wsX0_idealAnswer wsX0_weightOf := goodIn_r _ [6, 7, 11, 12, 13, 14, 15, 16, 17, 18] (by decide +kernel) (by decide +kernel)
set_option maxRecDepth 20000 in
theorem gX0_idealAnswer_X0_weightOf : GoodIn wsX0_idealAnswer (wsV RX0 39 RX0 yX0_weightOf wsX0_weightOf) := goodIn_app (goodIn_of _ (by decide +kernel)) ggX0_idealAnswer_X0_weightOf
set_option maxRecDepth 20000 in
theorem ggX0_idealAnswer_X5_inputOf : GoodIn wsX0_idealAnswer wsX5_inputOf := goodIn_r _ [10] (by decide +kernel) (by decide +kernel)
set_option maxRecDepth 20000 in
theorem gX0_idealAnswer_X5_inputOf_n74 : GoodIn wsX0_idealAnswer (wsX5_inputOf) := ggX0_idealAnswer_X5_inputOf
theorem dX0_idealAnswer_0 : decode cX0_idealAnswer 0 = .ok (.iconst 0, 1) := by decide +kernel
theorem dX0_idealAnswer_1 : decode cX0_idealAnswer 1 = .ok (.istore 4, 2) := by decide +kernel
theorem dX0_idealAnswer_3 : decode cX0_idealAnswer 3 = .ok (.iconst 0, 1) := by decide +kernel
theorem dX0_idealAnswer_4 : decode cX0_idealAnswer 4 = .ok (.istore 5, 2) := by decide +kernel
theorem dX0_idealAnswer_6 : decode cX0_idealAnswer 6 = .ok (.iload 5, 2) := by decide +kernel
theorem dX0_idealAnswer_8 : decode cX0_idealAnswer 8 = .ok (.aload_n 0, 1) := by decide +kernel
theorem dX0_idealAnswer_9 : decode cX0_idealAnswer 9 = .ok (.getfield 33, 3) := by decide +kernel
theorem dX0_idealAnswer_12 : decode cX0_idealAnswer 12 = .ok (.if_icmp .ge 28, 3) := by decide +kernel
theorem dX0_idealAnswer_15 : decode cX0_idealAnswer 15 = .ok (.iload 4, 2) := by decide +kernel
theorem dX0_idealAnswer_17 : decode cX0_idealAnswer 17 = .ok (.aload_n 0, 1) := by decide +kernel
theorem dX0_idealAnswer_18 : decode cX0_idealAnswer 18 = .ok (.iload 5, 2) := by decide +kernel
theorem dX0_idealAnswer_20 : decode cX0_idealAnswer 20 = .ok (.iload_n 3, 1) := by decide +kernel
theorem dX0_idealAnswer_21 : decode cX0_idealAnswer 21 = .ok (.invokevirtual 39, 3) := by decide +kernel
theorem dX0_idealAnswer_24 : decode cX0_idealAnswer 24 = .ok (.lload_n 1, 1) := by decide +kernel
theorem dX0_idealAnswer_25 : decode cX0_idealAnswer 25 = .ok (.iload 5, 2) := by decide +kernel
theorem dX0_idealAnswer_27 : decode cX0_idealAnswer 27 = .ok (.invokestatic 74, 3) := by decide +kernel
theorem dX0_idealAnswer_30 : decode cX0_idealAnswer 30 = .ok (.imul, 1) := by decide +kernel
theorem dX0_idealAnswer_31 : decode cX0_idealAnswer 31 = .ok (.iadd, 1) := by decide +kernel
theorem dX0_idealAnswer_32 : decode cX0_idealAnswer 32 = .ok (.istore 4, 2) := by decide +kernel
theorem dX0_idealAnswer_34 : decode cX0_idealAnswer 34 = .ok (.iinc 5 1, 3) := by decide +kernel
theorem dX0_idealAnswer_37 : decode cX0_idealAnswer 37 = .ok (.goto (-31), 3) := by decide +kernel
theorem dX0_idealAnswer_40 : decode cX0_idealAnswer 40 = .ok (.iload 4, 2) := by decide +kernel
theorem dX0_idealAnswer_42 : decode cX0_idealAnswer 42 = .ok (.ireturn, 1) := by decide +kernel
set_option maxRecDepth 20000 in
theorem ggX0_boundOn_X0_needOf : GoodIn wsX0_boundOn wsX0_needOf := goodIn_r _ [5, 6, 7, 8, 9, 4, 10, 11, 12, 13, 14, 15, 43, 44, 45, 46, 47, 48, 49, 50] (by decide +kernel) (by decide +kernel)
set_option maxRecDepth 20000 in
theorem gX0_boundOn_X0_needOf : GoodIn wsX0_boundOn (wsV RX0 78 RX0 yX0_needOf wsX0_needOf) := goodIn_app (goodIn_of _ (by decide +kernel)) ggX0_boundOn_X0_needOf
set_option maxRecDepth 20000 in
theorem ggX0_boundOn_X4_greatestError : GoodIn wsX0_boundOn wsX4_greatestError := goodIn_r _ [20, 21, 22, 23, 24, 25, 26, 27, 19, 28, 29, 30, 31, 32, 33, 34, 35, 36, 37, 38, 51, 52, 53, 54, 55, 56, 57, 58, 59, 60, 61, 62] (by decide +kernel) (by decide +kernel)
set_option maxRecDepth 20000 in
theorem gX0_boundOn_X4_greatestError : GoodIn wsX0_boundOn (wsV RX0 82 RX4 yX4_greatestError wsX4_greatestError) := goodIn_app (goodIn_of _ (by decide +kernel)) ggX0_boundOn_X4_greatestError
set_option maxRecDepth 20000 in
theorem ggX0_boundOn_X4_leastError : GoodIn wsX0_boundOn wsX4_leastError := goodIn_r _ [42, 33, 34, 23, 35, 25, 26, 27, 19, 28, 29, 30, 21, 22, 24, 31, 32, 36, 37, 38, 51, 52, 53, 54, 55, 56, 57, 58, 59, 60, 61, 62] (by decide +kernel) (by decide +kernel)
set_option maxRecDepth 20000 in
theorem gX0_boundOn_X4_leastError : GoodIn wsX0_boundOn (wsV RX0 85 RX4 yX4_leastError wsX4_leastError) := goodIn_app (goodIn_of _ (by decide +kernel)) ggX0_boundOn_X4_leastError
theorem dX0_boundOn_0 : decode cX0_boundOn 0 = .ok (.iconst 0, 1) := by decide +kernel
theorem dX0_boundOn_1 : decode cX0_boundOn 1 = .ok (.istore 4, 2) := by decide +kernel
theorem dX0_boundOn_3 : decode cX0_boundOn 3 = .ok (.iconst 0, 1) := by decide +kernel
theorem dX0_boundOn_4 : decode cX0_boundOn 4 = .ok (.istore 5, 2) := by decide +kernel
theorem dX0_boundOn_6 : decode cX0_boundOn 6 = .ok (.iload 5, 2) := by decide +kernel
theorem dX0_boundOn_8 : decode cX0_boundOn 8 = .ok (.iconst 4, 1) := by decide +kernel
theorem dX0_boundOn_9 : decode cX0_boundOn 9 = .ok (.if_icmp .ge 86, 3) := by decide +kernel
theorem dX0_boundOn_12 : decode cX0_boundOn 12 = .ok (.iload_n 2, 1) := by decide +kernel
theorem dX0_boundOn_13 : decode cX0_boundOn 13 = .ok (.iconst 4, 1) := by decide +kernel
theorem dX0_boundOn_14 : decode cX0_boundOn 14 = .ok (.imul, 1) := by decide +kernel
theorem dX0_boundOn_15 : decode cX0_boundOn 15 = .ok (.iload 5, 2) := by decide +kernel
theorem dX0_boundOn_17 : decode cX0_boundOn 17 = .ok (.iadd, 1) := by decide +kernel
theorem dX0_boundOn_18 : decode cX0_boundOn 18 = .ok (.istore 6, 2) := by decide +kernel
theorem dX0_boundOn_20 : decode cX0_boundOn 20 = .ok (.aload_n 0, 1) := by decide +kernel
theorem dX0_boundOn_21 : decode cX0_boundOn 21 = .ok (.iload 6, 2) := by decide +kernel
theorem dX0_boundOn_23 : decode cX0_boundOn 23 = .ok (.invokevirtual 78, 3) := by decide +kernel
theorem dX0_boundOn_26 : decode cX0_boundOn 26 = .ok (.istore 7, 2) := by decide +kernel
theorem dX0_boundOn_28 : decode cX0_boundOn 28 = .ok (.iload_n 3, 1) := by decide +kernel
theorem dX0_boundOn_29 : decode cX0_boundOn 29 = .ok (.getstatic 43, 3) := by decide +kernel
theorem dX0_boundOn_32 : decode cX0_boundOn 32 = .ok (.iload 5, 2) := by decide +kernel
theorem dX0_boundOn_34 : decode cX0_boundOn 34 = .ok (.iaload, 1) := by decide +kernel
theorem dX0_boundOn_35 : decode cX0_boundOn 35 = .ok (.ifCond .le 7, 3) := by decide +kernel
theorem dX0_boundOn_38 : decode cX0_boundOn 38 = .ok (.iconst 1, 1) := by decide +kernel
theorem dX0_boundOn_39 : decode cX0_boundOn 39 = .ok (.goto 4, 3) := by decide +kernel
theorem dX0_boundOn_42 : decode cX0_boundOn 42 = .ok (.iconst 0, 1) := by decide +kernel
theorem dX0_boundOn_43 : decode cX0_boundOn 43 = .ok (.if_icmp .ne 7, 3) := by decide +kernel
theorem dX0_boundOn_46 : decode cX0_boundOn 46 = .ok (.iconst 1, 1) := by decide +kernel
theorem dX0_boundOn_47 : decode cX0_boundOn 47 = .ok (.goto 4, 3) := by decide +kernel
theorem dX0_boundOn_50 : decode cX0_boundOn 50 = .ok (.iconst 0, 1) := by decide +kernel
theorem dX0_boundOn_51 : decode cX0_boundOn 51 = .ok (.istore 8, 2) := by decide +kernel
theorem dX0_boundOn_53 : decode cX0_boundOn 53 = .ok (.iload 4, 2) := by decide +kernel
theorem dX0_boundOn_55 : decode cX0_boundOn 55 = .ok (.getstatic 43, 3) := by decide +kernel
theorem dX0_boundOn_58 : decode cX0_boundOn 58 = .ok (.iload 5, 2) := by decide +kernel
theorem dX0_boundOn_60 : decode cX0_boundOn 60 = .ok (.iaload, 1) := by decide +kernel
theorem dX0_boundOn_61 : decode cX0_boundOn 61 = .ok (.iload 8, 2) := by decide +kernel
theorem dX0_boundOn_63 : decode cX0_boundOn 63 = .ok (.ifCond .eq 14, 3) := by decide +kernel
theorem dX0_boundOn_66 : decode cX0_boundOn 66 = .ok (.aload_n 1, 1) := by decide +kernel
theorem dX0_boundOn_67 : decode cX0_boundOn 67 = .ok (.iload 6, 2) := by decide +kernel
theorem dX0_boundOn_69 : decode cX0_boundOn 69 = .ok (.iload 7, 2) := by decide +kernel
theorem dX0_boundOn_71 : decode cX0_boundOn 71 = .ok (.invokevirtual 82, 3) := by decide +kernel
theorem dX0_boundOn_74 : decode cX0_boundOn 74 = .ok (.goto 11, 3) := by decide +kernel
theorem dX0_boundOn_77 : decode cX0_boundOn 77 = .ok (.aload_n 1, 1) := by decide +kernel
theorem dX0_boundOn_78 : decode cX0_boundOn 78 = .ok (.iload 6, 2) := by decide +kernel
theorem dX0_boundOn_80 : decode cX0_boundOn 80 = .ok (.iload 7, 2) := by decide +kernel
theorem dX0_boundOn_82 : decode cX0_boundOn 82 = .ok (.invokevirtual 85, 3) := by decide +kernel
theorem dX0_boundOn_85 : decode cX0_boundOn 85 = .ok (.imul, 1) := by decide +kernel
theorem dX0_boundOn_86 : decode cX0_boundOn 86 = .ok (.iadd, 1) := by decide +kernel
theorem dX0_boundOn_87 : decode cX0_boundOn 87 = .ok (.istore 4, 2) := by decide +kernel
theorem dX0_boundOn_89 : decode cX0_boundOn 89 = .ok (.iinc 5 1, 3) := by decide +kernel
theorem dX0_boundOn_92 : decode cX0_boundOn 92 = .ok (.goto (-86), 3) := by decide +kernel
theorem dX0_boundOn_95 : decode cX0_boundOn 95 = .ok (.sipush 255, 3) := by decide +kernel
theorem dX0_boundOn_98 : decode cX0_boundOn 98 = .ok (.iload 4, 2) := by decide +kernel
theorem dX0_boundOn_100 : decode cX0_boundOn 100 = .ok (.imul, 1) := by decide +kernel
theorem dX0_boundOn_101 : decode cX0_boundOn 101 = .ok (.ireturn, 1) := by decide +kernel
set_option maxRecDepth 20000 in
theorem ggX0_needOf_X0_needed : GoodIn wsX0_needOf wsX0_needed := goodIn_r _ [6, 7, 8, 9, 5, 10, 11, 12, 13, 14, 15, 16, 17, 18, 19] (by decide +kernel) (by decide +kernel)
set_option maxRecDepth 20000 in
theorem gX0_needOf_X0_needed : GoodIn wsX0_needOf (wsV RX0 50 RX0 yX0_needed wsX0_needed) := goodIn_app (goodIn_of _ (by decide +kernel)) ggX0_needOf_X0_needed
theorem dX0_needOf_0 : decode cX0_needOf 0 = .ok (.iconst 0, 1) := by decide +kernel
theorem dX0_needOf_1 : decode cX0_needOf 1 = .ok (.istore_n 2, 1) := by decide +kernel
theorem dX0_needOf_2 : decode cX0_needOf 2 = .ok (.iconst 0, 1) := by decide +kernel
theorem dX0_needOf_3 : decode cX0_needOf 3 = .ok (.istore_n 3, 1) := by decide +kernel
theorem dX0_needOf_4 : decode cX0_needOf 4 = .ok (.iload_n 3, 1) := by decide +kernel
theorem dX0_needOf_5 : decode cX0_needOf 5 = .ok (.aload_n 0, 1) := by decide +kernel
theorem dX0_needOf_6 : decode cX0_needOf 6 = .ok (.getfield 33, 3) := by decide +kernel
theorem dX0_needOf_9 : decode cX0_needOf 9 = .ok (.if_icmp .ge 18, 3) := by decide +kernel
theorem dX0_needOf_12 : decode cX0_needOf 12 = .ok (.iload_n 2, 1) := by decide +kernel
theorem dX0_needOf_13 : decode cX0_needOf 13 = .ok (.aload_n 0, 1) := by decide +kernel
theorem dX0_needOf_14 : decode cX0_needOf 14 = .ok (.iload_n 3, 1) := by decide +kernel
theorem dX0_needOf_15 : decode cX0_needOf 15 = .ok (.iload_n 1, 1) := by decide +kernel
theorem dX0_needOf_16 : decode cX0_needOf 16 = .ok (.invokevirtual 50, 3) := by decide +kernel
theorem dX0_needOf_19 : decode cX0_needOf 19 = .ok (.iadd, 1) := by decide +kernel
theorem dX0_needOf_20 : decode cX0_needOf 20 = .ok (.istore_n 2, 1) := by decide +kernel
theorem dX0_needOf_21 : decode cX0_needOf 21 = .ok (.iinc 3 1, 3) := by decide +kernel
theorem dX0_needOf_24 : decode cX0_needOf 24 = .ok (.goto (-20), 3) := by decide +kernel
theorem dX0_needOf_27 : decode cX0_needOf 27 = .ok (.iload_n 2, 1) := by decide +kernel
theorem dX0_needOf_28 : decode cX0_needOf 28 = .ok (.ireturn, 1) := by decide +kernel
set_option maxRecDepth 20000 in
theorem ggX0_cyclesOn_X0_columns : GoodIn wsX0_cyclesOn wsX0_columns := goodIn_r _ [6, 7, 23, 24, 25, 26, 27, 28, 29, 30] (by decide +kernel) (by decide +kernel)
set_option maxRecDepth 20000 in
theorem gX0_cyclesOn_X0_columns : GoodIn wsX0_cyclesOn (wsV RX0 46 RX0 yX0_columns wsX0_columns) := goodIn_app (goodIn_of _ (by decide +kernel)) ggX0_cyclesOn_X0_columns
set_option maxRecDepth 20000 in
theorem ggX0_cyclesOn_X5_quotient : GoodIn wsX0_cyclesOn wsX5_quotient := goodIn_r _ [10] (by decide +kernel) (by decide +kernel)
set_option maxRecDepth 20000 in
theorem gX0_cyclesOn_X5_quotient_n91 : GoodIn wsX0_cyclesOn (wsX5_quotient) := ggX0_cyclesOn_X5_quotient
theorem dX0_cyclesOn_0 : decode cX0_cyclesOn 0 = .ok (.bipush 8, 2) := by decide +kernel
theorem dX0_cyclesOn_2 : decode cX0_cyclesOn 2 = .ok (.aload_n 0, 1) := by decide +kernel
theorem dX0_cyclesOn_3 : decode cX0_cyclesOn 3 = .ok (.invokevirtual 46, 3) := by decide +kernel
theorem dX0_cyclesOn_6 : decode cX0_cyclesOn 6 = .ok (.aload_n 1, 1) := by decide +kernel
theorem dX0_cyclesOn_7 : decode cX0_cyclesOn 7 = .ok (.getfield 88, 3) := by decide +kernel
theorem dX0_cyclesOn_10 : decode cX0_cyclesOn 10 = .ok (.iadd, 1) := by decide +kernel
theorem dX0_cyclesOn_11 : decode cX0_cyclesOn 11 = .ok (.iconst 1, 1) := by decide +kernel
theorem dX0_cyclesOn_12 : decode cX0_cyclesOn 12 = .ok (.isub, 1) := by decide +kernel
theorem dX0_cyclesOn_13 : decode cX0_cyclesOn 13 = .ok (.aload_n 1, 1) := by decide +kernel
theorem dX0_cyclesOn_14 : decode cX0_cyclesOn 14 = .ok (.getfield 88, 3) := by decide +kernel
theorem dX0_cyclesOn_17 : decode cX0_cyclesOn 17 = .ok (.invokestatic 91, 3) := by decide +kernel
theorem dX0_cyclesOn_20 : decode cX0_cyclesOn 20 = .ok (.imul, 1) := by decide +kernel
theorem dX0_cyclesOn_21 : decode cX0_cyclesOn 21 = .ok (.ireturn, 1) := by decide +kernel
theorem dX1_init_0 : decode cX1_init 0 = .ok (.aload_n 0, 1) := by decide +kernel
theorem dX1_init_1 : decode cX1_init 1 = .ok (.invokespecial 3, 3) := by decide +kernel
theorem dX1_init_4 : decode cX1_init 4 = .ok (.aload_n 0, 1) := by decide +kernel
theorem dX1_init_5 : decode cX1_init 5 = .ok (.bipush 6, 2) := by decide +kernel
theorem dX1_init_7 : decode cX1_init 7 = .ok (.newarray .int, 2) := by decide +kernel
theorem dX1_init_9 : decode cX1_init 9 = .ok (.putfield 9, 3) := by decide +kernel
theorem dX1_init_12 : decode cX1_init 12 = .ok (.aload_n 0, 1) := by decide +kernel
theorem dX1_init_13 : decode cX1_init 13 = .ok (.bipush 6, 2) := by decide +kernel
theorem dX1_init_15 : decode cX1_init 15 = .ok (.newarray .int, 2) := by decide +kernel
theorem dX1_init_17 : decode cX1_init 17 = .ok (.putfield 15, 3) := by decide +kernel
theorem dX1_init_20 : decode cX1_init 20 = .ok (.aload_n 0, 1) := by decide +kernel
theorem dX1_init_21 : decode cX1_init 21 = .ok (.iconst 0, 1) := by decide +kernel
theorem dX1_init_22 : decode cX1_init 22 = .ok (.putfield 18, 3) := by decide +kernel
theorem dX1_init_25 : decode cX1_init 25 = .ok (.return_, 1) := by decide +kernel
theorem dX1_clear_0 : decode cX1_clear 0 = .ok (.aload_n 0, 1) := by decide +kernel
theorem dX1_clear_1 : decode cX1_clear 1 = .ok (.iconst 0, 1) := by decide +kernel
theorem dX1_clear_2 : decode cX1_clear 2 = .ok (.putfield 18, 3) := by decide +kernel
theorem dX1_clear_5 : decode cX1_clear 5 = .ok (.return_, 1) := by decide +kernel
theorem dX1_add_0 : decode cX1_add 0 = .ok (.aload_n 0, 1) := by decide +kernel
theorem dX1_add_1 : decode cX1_add 1 = .ok (.getfield 18, 3) := by decide +kernel
theorem dX1_add_4 : decode cX1_add 4 = .ok (.bipush 6, 2) := by decide +kernel
theorem dX1_add_6 : decode cX1_add 6 = .ok (.if_icmp .ge 23, 3) := by decide +kernel
theorem dX1_add_9 : decode cX1_add 9 = .ok (.aload_n 0, 1) := by decide +kernel
theorem dX1_add_10 : decode cX1_add 10 = .ok (.getfield 9, 3) := by decide +kernel
theorem dX1_add_13 : decode cX1_add 13 = .ok (.aload_n 0, 1) := by decide +kernel
theorem dX1_add_14 : decode cX1_add 14 = .ok (.getfield 18, 3) := by decide +kernel
theorem dX1_add_17 : decode cX1_add 17 = .ok (.iload_n 1, 1) := by decide +kernel
theorem dX1_add_18 : decode cX1_add 18 = .ok (.iastore, 1) := by decide +kernel
theorem dX1_add_19 : decode cX1_add 19 = .ok (.aload_n 0, 1) := by decide +kernel
theorem dX1_add_20 : decode cX1_add 20 = .ok (.dup, 1) := by decide +kernel
theorem dX1_add_21 : decode cX1_add 21 = .ok (.getfield 18, 3) := by decide +kernel
theorem dX1_add_24 : decode cX1_add 24 = .ok (.iconst 1, 1) := by decide +kernel
theorem dX1_add_25 : decode cX1_add 25 = .ok (.iadd, 1) := by decide +kernel
theorem dX1_add_26 : decode cX1_add 26 = .ok (.putfield 18, 3) := by decide +kernel
theorem dX1_add_29 : decode cX1_add 29 = .ok (.return_, 1) := by decide +kernel
theorem dX1_cyclesReckoned_0 : decode cX1_cyclesReckoned 0 = .ok (.iconst 0, 1) := by decide +kernel
theorem dX1_cyclesReckoned_1 : decode cX1_cyclesReckoned 1 = .ok (.istore_n 2, 1) := by decide +kernel
theorem dX1_cyclesReckoned_2 : decode cX1_cyclesReckoned 2 = .ok (.iconst 0, 1) := by decide +kernel
theorem dX1_cyclesReckoned_3 : decode cX1_cyclesReckoned 3 = .ok (.istore_n 3, 1) := by decide +kernel
theorem dX1_cyclesReckoned_4 : decode cX1_cyclesReckoned 4 = .ok (.iconst 0, 1) := by decide +kernel
theorem dX1_cyclesReckoned_5 : decode cX1_cyclesReckoned 5 = .ok (.istore 4, 2) := by decide +kernel
theorem dX1_cyclesReckoned_7 : decode cX1_cyclesReckoned 7 = .ok (.iload 4, 2) := by decide +kernel
theorem dX1_cyclesReckoned_9 : decode cX1_cyclesReckoned 9 = .ok (.aload_n 0, 1) := by decide +kernel
theorem dX1_cyclesReckoned_10 : decode cX1_cyclesReckoned 10 = .ok (.getfield 18, 3) := by decide +kernel
theorem dX1_cyclesReckoned_13 : decode cX1_cyclesReckoned 13 = .ok (.if_icmp .ge 31, 3) := by decide +kernel
theorem dX1_cyclesReckoned_16 : decode cX1_cyclesReckoned 16 = .ok (.iload_n 2, 1) := by decide +kernel
theorem dX1_cyclesReckoned_17 : decode cX1_cyclesReckoned 17 = .ok (.aload_n 0, 1) := by decide +kernel
theorem dX1_cyclesReckoned_18 : decode cX1_cyclesReckoned 18 = .ok (.getfield 9, 3) := by decide +kernel
theorem dX1_cyclesReckoned_21 : decode cX1_cyclesReckoned 21 = .ok (.iload 4, 2) := by decide +kernel
theorem dX1_cyclesReckoned_23 : decode cX1_cyclesReckoned 23 = .ok (.iaload, 1) := by decide +kernel
theorem dX1_cyclesReckoned_24 : decode cX1_cyclesReckoned 24 = .ok (.iadd, 1) := by decide +kernel
theorem dX1_cyclesReckoned_25 : decode cX1_cyclesReckoned 25 = .ok (.istore_n 2, 1) := by decide +kernel
theorem dX1_cyclesReckoned_26 : decode cX1_cyclesReckoned 26 = .ok (.iload_n 3, 1) := by decide +kernel
theorem dX1_cyclesReckoned_27 : decode cX1_cyclesReckoned 27 = .ok (.aload_n 0, 1) := by decide +kernel
theorem dX1_cyclesReckoned_28 : decode cX1_cyclesReckoned 28 = .ok (.getfield 9, 3) := by decide +kernel
theorem dX1_cyclesReckoned_31 : decode cX1_cyclesReckoned 31 = .ok (.iload 4, 2) := by decide +kernel
theorem dX1_cyclesReckoned_33 : decode cX1_cyclesReckoned 33 = .ok (.iaload, 1) := by decide +kernel
theorem dX1_cyclesReckoned_34 : decode cX1_cyclesReckoned 34 = .ok (.invokestatic 22, 3) := by decide +kernel
theorem dX1_cyclesReckoned_37 : decode cX1_cyclesReckoned 37 = .ok (.istore_n 3, 1) := by decide +kernel
theorem dX1_cyclesReckoned_38 : decode cX1_cyclesReckoned 38 = .ok (.iinc 4 1, 3) := by decide +kernel
theorem dX1_cyclesReckoned_41 : decode cX1_cyclesReckoned 41 = .ok (.goto (-34), 3) := by decide +kernel
theorem dX1_cyclesReckoned_44 : decode cX1_cyclesReckoned 44 = .ok (.iload_n 2, 1) := by decide +kernel
theorem dX1_cyclesReckoned_45 : decode cX1_cyclesReckoned 45 = .ok (.iload_n 1, 1) := by decide +kernel
theorem dX1_cyclesReckoned_46 : decode cX1_cyclesReckoned 46 = .ok (.iconst 1, 1) := by decide +kernel
theorem dX1_cyclesReckoned_47 : decode cX1_cyclesReckoned 47 = .ok (.isub, 1) := by decide +kernel
theorem dX1_cyclesReckoned_48 : decode cX1_cyclesReckoned 48 = .ok (.iload_n 3, 1) := by decide +kernel
theorem dX1_cyclesReckoned_49 : decode cX1_cyclesReckoned 49 = .ok (.imul, 1) := by decide +kernel
theorem dX1_cyclesReckoned_50 : decode cX1_cyclesReckoned 50 = .ok (.iadd, 1) := by decide +kernel
theorem dX1_cyclesReckoned_51 : decode cX1_cyclesReckoned 51 = .ok (.ireturn, 1) := by decide +kernel
set_option maxRecDepth 20000 in
theorem ggX1_cyclesCounted_X1_moveOn : GoodIn wsX1_cyclesCounted wsX1_moveOn := goodIn_r _ [9, 1, 2, 4, 14, 15, 16] (by decide +kernel) (by decide +kernel)
set_option maxRecDepth 20000 in
theorem gX1_cyclesCounted_X1_moveOn : GoodIn wsX1_cyclesCounted (wsV RX1 29 RX1 yX1_moveOn wsX1_moveOn) := goodIn_app (goodIn_of _ (by decide +kernel)) ggX1_cyclesCounted_X1_moveOn
set_option maxRecDepth 20000 in
theorem ggX1_cyclesCounted_X1_work : GoodIn wsX1_cyclesCounted wsX1_work := goodIn_r _ [13, 1, 2, 14, 15, 16] (by decide +kernel) (by decide +kernel)
set_option maxRecDepth 20000 in
theorem gX1_cyclesCounted_X1_work : GoodIn wsX1_cyclesCounted (wsV RX1 33 RX1 yX1_work wsX1_work) := goodIn_app (goodIn_of _ (by decide +kernel)) ggX1_cyclesCounted_X1_work
theorem dX1_cyclesCounted_0 : decode cX1_cyclesCounted 0 = .ok (.iconst 0, 1) := by decide +kernel
theorem dX1_cyclesCounted_1 : decode cX1_cyclesCounted 1 = .ok (.istore_n 2, 1) := by decide +kernel
theorem dX1_cyclesCounted_2 : decode cX1_cyclesCounted 2 = .ok (.iload_n 2, 1) := by decide +kernel
theorem dX1_cyclesCounted_3 : decode cX1_cyclesCounted 3 = .ok (.aload_n 0, 1) := by decide +kernel
theorem dX1_cyclesCounted_4 : decode cX1_cyclesCounted 4 = .ok (.getfield 18, 3) := by decide +kernel
theorem dX1_cyclesCounted_7 : decode cX1_cyclesCounted 7 = .ok (.if_icmp .ge 16, 3) := by decide +kernel
theorem dX1_cyclesCounted_10 : decode cX1_cyclesCounted 10 = .ok (.aload_n 0, 1) := by decide +kernel
theorem dX1_cyclesCounted_11 : decode cX1_cyclesCounted 11 = .ok (.getfield 15, 3) := by decide +kernel
theorem dX1_cyclesCounted_14 : decode cX1_cyclesCounted 14 = .ok (.iload_n 2, 1) := by decide +kernel
theorem dX1_cyclesCounted_15 : decode cX1_cyclesCounted 15 = .ok (.iconst (-1), 1) := by decide +kernel
theorem dX1_cyclesCounted_16 : decode cX1_cyclesCounted 16 = .ok (.iastore, 1) := by decide +kernel
theorem dX1_cyclesCounted_17 : decode cX1_cyclesCounted 17 = .ok (.iinc 2 1, 3) := by decide +kernel
theorem dX1_cyclesCounted_20 : decode cX1_cyclesCounted 20 = .ok (.goto (-18), 3) := by decide +kernel
theorem dX1_cyclesCounted_23 : decode cX1_cyclesCounted 23 = .ok (.iconst 0, 1) := by decide +kernel
theorem dX1_cyclesCounted_24 : decode cX1_cyclesCounted 24 = .ok (.istore_n 2, 1) := by decide +kernel
theorem dX1_cyclesCounted_25 : decode cX1_cyclesCounted 25 = .ok (.iconst 0, 1) := by decide +kernel
theorem dX1_cyclesCounted_26 : decode cX1_cyclesCounted 26 = .ok (.istore_n 3, 1) := by decide +kernel
theorem dX1_cyclesCounted_27 : decode cX1_cyclesCounted 27 = .ok (.iconst 0, 1) := by decide +kernel
theorem dX1_cyclesCounted_28 : decode cX1_cyclesCounted 28 = .ok (.istore 4, 2) := by decide +kernel
theorem dX1_cyclesCounted_30 : decode cX1_cyclesCounted 30 = .ok (.iload 4, 2) := by decide +kernel
theorem dX1_cyclesCounted_32 : decode cX1_cyclesCounted 32 = .ok (.ldc 28, 2) := by decide +kernel
theorem dX1_cyclesCounted_34 : decode cX1_cyclesCounted 34 = .ok (.if_icmp .ge 58, 3) := by decide +kernel
theorem dX1_cyclesCounted_37 : decode cX1_cyclesCounted 37 = .ok (.iload_n 3, 1) := by decide +kernel
theorem dX1_cyclesCounted_38 : decode cX1_cyclesCounted 38 = .ok (.aload_n 0, 1) := by decide +kernel
theorem dX1_cyclesCounted_39 : decode cX1_cyclesCounted 39 = .ok (.invokevirtual 29, 3) := by decide +kernel
theorem dX1_cyclesCounted_42 : decode cX1_cyclesCounted 42 = .ok (.iadd, 1) := by decide +kernel
theorem dX1_cyclesCounted_43 : decode cX1_cyclesCounted 43 = .ok (.istore_n 3, 1) := by decide +kernel
theorem dX1_cyclesCounted_44 : decode cX1_cyclesCounted 44 = .ok (.iload_n 3, 1) := by decide +kernel
theorem dX1_cyclesCounted_45 : decode cX1_cyclesCounted 45 = .ok (.iload_n 1, 1) := by decide +kernel
theorem dX1_cyclesCounted_46 : decode cX1_cyclesCounted 46 = .ok (.if_icmp .lt 6, 3) := by decide +kernel
theorem dX1_cyclesCounted_49 : decode cX1_cyclesCounted 49 = .ok (.iload 4, 2) := by decide +kernel
theorem dX1_cyclesCounted_51 : decode cX1_cyclesCounted 51 = .ok (.ireturn, 1) := by decide +kernel
theorem dX1_cyclesCounted_52 : decode cX1_cyclesCounted 52 = .ok (.iload_n 2, 1) := by decide +kernel
theorem dX1_cyclesCounted_53 : decode cX1_cyclesCounted 53 = .ok (.iload_n 1, 1) := by decide +kernel
theorem dX1_cyclesCounted_54 : decode cX1_cyclesCounted 54 = .ok (.if_icmp .ge 28, 3) := by decide +kernel
theorem dX1_cyclesCounted_57 : decode cX1_cyclesCounted 57 = .ok (.aload_n 0, 1) := by decide +kernel
theorem dX1_cyclesCounted_58 : decode cX1_cyclesCounted 58 = .ok (.getfield 15, 3) := by decide +kernel
theorem dX1_cyclesCounted_61 : decode cX1_cyclesCounted 61 = .ok (.iconst 0, 1) := by decide +kernel
theorem dX1_cyclesCounted_62 : decode cX1_cyclesCounted 62 = .ok (.iaload, 1) := by decide +kernel
theorem dX1_cyclesCounted_63 : decode cX1_cyclesCounted 63 = .ok (.iconst (-1), 1) := by decide +kernel
theorem dX1_cyclesCounted_64 : decode cX1_cyclesCounted 64 = .ok (.if_icmp .ne 18, 3) := by decide +kernel
theorem dX1_cyclesCounted_67 : decode cX1_cyclesCounted 67 = .ok (.aload_n 0, 1) := by decide +kernel
theorem dX1_cyclesCounted_68 : decode cX1_cyclesCounted 68 = .ok (.getfield 15, 3) := by decide +kernel
theorem dX1_cyclesCounted_71 : decode cX1_cyclesCounted 71 = .ok (.iconst 0, 1) := by decide +kernel
theorem dX1_cyclesCounted_72 : decode cX1_cyclesCounted 72 = .ok (.aload_n 0, 1) := by decide +kernel
theorem dX1_cyclesCounted_73 : decode cX1_cyclesCounted 73 = .ok (.getfield 9, 3) := by decide +kernel
theorem dX1_cyclesCounted_76 : decode cX1_cyclesCounted 76 = .ok (.iconst 0, 1) := by decide +kernel
theorem dX1_cyclesCounted_77 : decode cX1_cyclesCounted 77 = .ok (.iaload, 1) := by decide +kernel
theorem dX1_cyclesCounted_78 : decode cX1_cyclesCounted 78 = .ok (.iastore, 1) := by decide +kernel
theorem dX1_cyclesCounted_79 : decode cX1_cyclesCounted 79 = .ok (.iinc 2 1, 3) := by decide +kernel
theorem dX1_cyclesCounted_82 : decode cX1_cyclesCounted 82 = .ok (.aload_n 0, 1) := by decide +kernel
theorem dX1_cyclesCounted_83 : decode cX1_cyclesCounted 83 = .ok (.invokevirtual 33, 3) := by decide +kernel
theorem dX1_cyclesCounted_86 : decode cX1_cyclesCounted 86 = .ok (.iinc 4 1, 3) := by decide +kernel
theorem dX1_cyclesCounted_89 : decode cX1_cyclesCounted 89 = .ok (.goto (-59), 3) := by decide +kernel
theorem dX1_cyclesCounted_92 : decode cX1_cyclesCounted 92 = .ok (.ldc 28, 2) := by decide +kernel
theorem dX1_cyclesCounted_94 : decode cX1_cyclesCounted 94 = .ok (.ireturn, 1) := by decide +kernel
theorem dX1_moveOn_0 : decode cX1_moveOn 0 = .ok (.iconst 0, 1) := by decide +kernel
theorem dX1_moveOn_1 : decode cX1_moveOn 1 = .ok (.istore_n 1, 1) := by decide +kernel
theorem dX1_moveOn_2 : decode cX1_moveOn 2 = .ok (.aload_n 0, 1) := by decide +kernel
theorem dX1_moveOn_3 : decode cX1_moveOn 3 = .ok (.getfield 18, 3) := by decide +kernel
theorem dX1_moveOn_6 : decode cX1_moveOn 6 = .ok (.iconst 1, 1) := by decide +kernel
theorem dX1_moveOn_7 : decode cX1_moveOn 7 = .ok (.isub, 1) := by decide +kernel
theorem dX1_moveOn_8 : decode cX1_moveOn 8 = .ok (.istore_n 2, 1) := by decide +kernel
theorem dX1_moveOn_9 : decode cX1_moveOn 9 = .ok (.iload_n 2, 1) := by decide +kernel
theorem dX1_moveOn_10 : decode cX1_moveOn 10 = .ok (.ifCond .lt 79, 3) := by decide +kernel
theorem dX1_moveOn_13 : decode cX1_moveOn 13 = .ok (.aload_n 0, 1) := by decide +kernel
theorem dX1_moveOn_14 : decode cX1_moveOn 14 = .ok (.getfield 15, 3) := by decide +kernel
theorem dX1_moveOn_17 : decode cX1_moveOn 17 = .ok (.iload_n 2, 1) := by decide +kernel
theorem dX1_moveOn_18 : decode cX1_moveOn 18 = .ok (.iaload, 1) := by decide +kernel
theorem dX1_moveOn_19 : decode cX1_moveOn 19 = .ok (.ifCond .eq 6, 3) := by decide +kernel
theorem dX1_moveOn_22 : decode cX1_moveOn 22 = .ok (.goto 61, 3) := by decide +kernel
theorem dX1_moveOn_25 : decode cX1_moveOn 25 = .ok (.iload_n 2, 1) := by decide +kernel
theorem dX1_moveOn_26 : decode cX1_moveOn 26 = .ok (.aload_n 0, 1) := by decide +kernel
theorem dX1_moveOn_27 : decode cX1_moveOn 27 = .ok (.getfield 18, 3) := by decide +kernel
theorem dX1_moveOn_30 : decode cX1_moveOn 30 = .ok (.iconst 1, 1) := by decide +kernel
theorem dX1_moveOn_31 : decode cX1_moveOn 31 = .ok (.isub, 1) := by decide +kernel
theorem dX1_moveOn_32 : decode cX1_moveOn 32 = .ok (.if_icmp .ne 16, 3) := by decide +kernel
theorem dX1_moveOn_35 : decode cX1_moveOn 35 = .ok (.aload_n 0, 1) := by decide +kernel
theorem dX1_moveOn_36 : decode cX1_moveOn 36 = .ok (.getfield 15, 3) := by decide +kernel
theorem dX1_moveOn_39 : decode cX1_moveOn 39 = .ok (.iload_n 2, 1) := by decide +kernel
theorem dX1_moveOn_40 : decode cX1_moveOn 40 = .ok (.iconst (-1), 1) := by decide +kernel
theorem dX1_moveOn_41 : decode cX1_moveOn 41 = .ok (.iastore, 1) := by decide +kernel
theorem dX1_moveOn_42 : decode cX1_moveOn 42 = .ok (.iinc 1 1, 3) := by decide +kernel
theorem dX1_moveOn_45 : decode cX1_moveOn 45 = .ok (.goto 38, 3) := by decide +kernel
theorem dX1_moveOn_48 : decode cX1_moveOn 48 = .ok (.aload_n 0, 1) := by decide +kernel
theorem dX1_moveOn_49 : decode cX1_moveOn 49 = .ok (.getfield 15, 3) := by decide +kernel
theorem dX1_moveOn_52 : decode cX1_moveOn 52 = .ok (.iload_n 2, 1) := by decide +kernel
theorem dX1_moveOn_53 : decode cX1_moveOn 53 = .ok (.iconst 1, 1) := by decide +kernel
theorem dX1_moveOn_54 : decode cX1_moveOn 54 = .ok (.iadd, 1) := by decide +kernel
theorem dX1_moveOn_55 : decode cX1_moveOn 55 = .ok (.iaload, 1) := by decide +kernel
theorem dX1_moveOn_56 : decode cX1_moveOn 56 = .ok (.iconst (-1), 1) := by decide +kernel
theorem dX1_moveOn_57 : decode cX1_moveOn 57 = .ok (.if_icmp .ne 26, 3) := by decide +kernel
theorem dX1_moveOn_60 : decode cX1_moveOn 60 = .ok (.aload_n 0, 1) := by decide +kernel
theorem dX1_moveOn_61 : decode cX1_moveOn 61 = .ok (.getfield 15, 3) := by decide +kernel
theorem dX1_moveOn_64 : decode cX1_moveOn 64 = .ok (.iload_n 2, 1) := by decide +kernel
theorem dX1_moveOn_65 : decode cX1_moveOn 65 = .ok (.iconst (-1), 1) := by decide +kernel
theorem dX1_moveOn_66 : decode cX1_moveOn 66 = .ok (.iastore, 1) := by decide +kernel
theorem dX1_moveOn_67 : decode cX1_moveOn 67 = .ok (.aload_n 0, 1) := by decide +kernel
theorem dX1_moveOn_68 : decode cX1_moveOn 68 = .ok (.getfield 15, 3) := by decide +kernel
theorem dX1_moveOn_71 : decode cX1_moveOn 71 = .ok (.iload_n 2, 1) := by decide +kernel
theorem dX1_moveOn_72 : decode cX1_moveOn 72 = .ok (.iconst 1, 1) := by decide +kernel
theorem dX1_moveOn_73 : decode cX1_moveOn 73 = .ok (.iadd, 1) := by decide +kernel
theorem dX1_moveOn_74 : decode cX1_moveOn 74 = .ok (.aload_n 0, 1) := by decide +kernel
theorem dX1_moveOn_75 : decode cX1_moveOn 75 = .ok (.getfield 9, 3) := by decide +kernel
theorem dX1_moveOn_78 : decode cX1_moveOn 78 = .ok (.iload_n 2, 1) := by decide +kernel
theorem dX1_moveOn_79 : decode cX1_moveOn 79 = .ok (.iconst 1, 1) := by decide +kernel
theorem dX1_moveOn_80 : decode cX1_moveOn 80 = .ok (.iadd, 1) := by decide +kernel
theorem dX1_moveOn_81 : decode cX1_moveOn 81 = .ok (.iaload, 1) := by decide +kernel
theorem dX1_moveOn_82 : decode cX1_moveOn 82 = .ok (.iastore, 1) := by decide +kernel
theorem dX1_moveOn_83 : decode cX1_moveOn 83 = .ok (.iinc 2 (-1), 3) := by decide +kernel
theorem dX1_moveOn_86 : decode cX1_moveOn 86 = .ok (.goto (-77), 3) := by decide +kernel
theorem dX1_moveOn_89 : decode cX1_moveOn 89 = .ok (.iload_n 1, 1) := by decide +kernel
theorem dX1_moveOn_90 : decode cX1_moveOn 90 = .ok (.ireturn, 1) := by decide +kernel
theorem dX1_work_0 : decode cX1_work 0 = .ok (.iconst 0, 1) := by decide +kernel
theorem dX1_work_1 : decode cX1_work 1 = .ok (.istore_n 1, 1) := by decide +kernel
theorem dX1_work_2 : decode cX1_work 2 = .ok (.iload_n 1, 1) := by decide +kernel
theorem dX1_work_3 : decode cX1_work 3 = .ok (.aload_n 0, 1) := by decide +kernel
theorem dX1_work_4 : decode cX1_work 4 = .ok (.getfield 18, 3) := by decide +kernel
theorem dX1_work_7 : decode cX1_work 7 = .ok (.if_icmp .ge 28, 3) := by decide +kernel
theorem dX1_work_10 : decode cX1_work 10 = .ok (.aload_n 0, 1) := by decide +kernel
theorem dX1_work_11 : decode cX1_work 11 = .ok (.getfield 15, 3) := by decide +kernel
theorem dX1_work_14 : decode cX1_work 14 = .ok (.iload_n 1, 1) := by decide +kernel
theorem dX1_work_15 : decode cX1_work 15 = .ok (.iaload, 1) := by decide +kernel
theorem dX1_work_16 : decode cX1_work 16 = .ok (.ifCond .le 13, 3) := by decide +kernel
theorem dX1_work_19 : decode cX1_work 19 = .ok (.aload_n 0, 1) := by decide +kernel
theorem dX1_work_20 : decode cX1_work 20 = .ok (.getfield 15, 3) := by decide +kernel
theorem dX1_work_23 : decode cX1_work 23 = .ok (.iload_n 1, 1) := by decide +kernel
theorem dX1_work_24 : decode cX1_work 24 = .ok (.dup2, 1) := by decide +kernel
theorem dX1_work_25 : decode cX1_work 25 = .ok (.iaload, 1) := by decide +kernel
theorem dX1_work_26 : decode cX1_work 26 = .ok (.iconst 1, 1) := by decide +kernel
theorem dX1_work_27 : decode cX1_work 27 = .ok (.isub, 1) := by decide +kernel
theorem dX1_work_28 : decode cX1_work 28 = .ok (.iastore, 1) := by decide +kernel
theorem dX1_work_29 : decode cX1_work 29 = .ok (.iinc 1 1, 3) := by decide +kernel
theorem dX1_work_32 : decode cX1_work 32 = .ok (.goto (-30), 3) := by decide +kernel
theorem dX1_work_35 : decode cX1_work 35 = .ok (.return_, 1) := by decide +kernel
theorem dX2_init_0 : decode cX2_init 0 = .ok (.aload_n 0, 1) := by decide +kernel
theorem dX2_init_1 : decode cX2_init 1 = .ok (.invokespecial 3, 3) := by decide +kernel
theorem dX2_init_4 : decode cX2_init 4 = .ok (.aload_n 0, 1) := by decide +kernel
theorem dX2_init_5 : decode cX2_init 5 = .ok (.bipush 64, 2) := by decide +kernel
theorem dX2_init_7 : decode cX2_init 7 = .ok (.newarray .int, 2) := by decide +kernel
theorem dX2_init_9 : decode cX2_init 9 = .ok (.putfield 9, 3) := by decide +kernel
theorem dX2_init_12 : decode cX2_init 12 = .ok (.aload_n 0, 1) := by decide +kernel
theorem dX2_init_13 : decode cX2_init 13 = .ok (.sipush 256, 3) := by decide +kernel
theorem dX2_init_16 : decode cX2_init 16 = .ok (.newarray .int, 2) := by decide +kernel
theorem dX2_init_18 : decode cX2_init 18 = .ok (.putfield 15, 3) := by decide +kernel
theorem dX2_init_21 : decode cX2_init 21 = .ok (.return_, 1) := by decide +kernel
set_option maxRecDepth 20000 in
theorem ggX2_weigh_X0_misfitsIn : GoodIn wsX2_weigh wsX0_misfitsIn := goodIn_r _ [7, 8, 9, 10, 6, 11, 12, 13, 14, 15, 16, 17, 18, 19, 20, 21, 22, 23, 24, 25, 26, 27, 28, 29, 30, 31, 32, 33, 34, 35, 36, 37, 38, 39, 42, 43, 44, 45, 46, 47, 48, 49, 50, 51, 52, 53] (by decide +kernel) (by decide +kernel)
set_option maxRecDepth 20000 in
theorem gX2_weigh_X0_misfitsIn : GoodIn wsX2_weigh (wsV RX2 24 RX0 yX0_misfitsIn wsX0_misfitsIn) := goodIn_app (goodIn_of _ (by decide +kernel)) ggX2_weigh_X0_misfitsIn
theorem dX2_weigh_0 : decode cX2_weigh 0 = .ok (.iconst 0, 1) := by decide +kernel
theorem dX2_weigh_1 : decode cX2_weigh 1 = .ok (.istore_n 3, 1) := by decide +kernel
theorem dX2_weigh_2 : decode cX2_weigh 2 = .ok (.iload_n 3, 1) := by decide +kernel
theorem dX2_weigh_3 : decode cX2_weigh 3 = .ok (.aload_n 1, 1) := by decide +kernel
theorem dX2_weigh_4 : decode cX2_weigh 4 = .ok (.getfield 18, 3) := by decide +kernel
theorem dX2_weigh_7 : decode cX2_weigh 7 = .ok (.if_icmp .ge 45, 3) := by decide +kernel
theorem dX2_weigh_10 : decode cX2_weigh 10 = .ok (.iconst 0, 1) := by decide +kernel
theorem dX2_weigh_11 : decode cX2_weigh 11 = .ok (.istore 4, 2) := by decide +kernel
theorem dX2_weigh_13 : decode cX2_weigh 13 = .ok (.iload 4, 2) := by decide +kernel
theorem dX2_weigh_15 : decode cX2_weigh 15 = .ok (.bipush 8, 2) := by decide +kernel
theorem dX2_weigh_17 : decode cX2_weigh 17 = .ok (.if_icmp .ge 29, 3) := by decide +kernel
theorem dX2_weigh_20 : decode cX2_weigh 20 = .ok (.aload_n 0, 1) := by decide +kernel
theorem dX2_weigh_21 : decode cX2_weigh 21 = .ok (.getfield 9, 3) := by decide +kernel
theorem dX2_weigh_24 : decode cX2_weigh 24 = .ok (.iload_n 3, 1) := by decide +kernel
theorem dX2_weigh_25 : decode cX2_weigh 25 = .ok (.bipush 8, 2) := by decide +kernel
theorem dX2_weigh_27 : decode cX2_weigh 27 = .ok (.imul, 1) := by decide +kernel
theorem dX2_weigh_28 : decode cX2_weigh 28 = .ok (.iload 4, 2) := by decide +kernel
theorem dX2_weigh_30 : decode cX2_weigh 30 = .ok (.iadd, 1) := by decide +kernel
theorem dX2_weigh_31 : decode cX2_weigh 31 = .ok (.aload_n 1, 1) := by decide +kernel
theorem dX2_weigh_32 : decode cX2_weigh 32 = .ok (.aload_n 2, 1) := by decide +kernel
theorem dX2_weigh_33 : decode cX2_weigh 33 = .ok (.iload_n 3, 1) := by decide +kernel
theorem dX2_weigh_34 : decode cX2_weigh 34 = .ok (.iload 4, 2) := by decide +kernel
theorem dX2_weigh_36 : decode cX2_weigh 36 = .ok (.invokevirtual 24, 3) := by decide +kernel
theorem dX2_weigh_39 : decode cX2_weigh 39 = .ok (.iastore, 1) := by decide +kernel
theorem dX2_weigh_40 : decode cX2_weigh 40 = .ok (.iinc 4 1, 3) := by decide +kernel
theorem dX2_weigh_43 : decode cX2_weigh 43 = .ok (.goto (-30), 3) := by decide +kernel
theorem dX2_weigh_46 : decode cX2_weigh 46 = .ok (.iinc 3 1, 3) := by decide +kernel
theorem dX2_weigh_49 : decode cX2_weigh 49 = .ok (.goto (-47), 3) := by decide +kernel
theorem dX2_weigh_52 : decode cX2_weigh 52 = .ok (.return_, 1) := by decide +kernel
set_option maxRecDepth 20000 in
theorem ggX2_fewestMisfits_J6_bitCount_0f7a4 : GoodIn wsX2_fewestMisfits wsJ6_bitCount_0f7a4 := goodIn_r _ [5, 6, 7, 8] (by decide +kernel) (by decide +kernel)
set_option maxRecDepth 20000 in
theorem gX2_fewestMisfits_J6_bitCount_0f7a4 : GoodIn wsX2_fewestMisfits (va_wsS RX2 28 yJ6_bitCount_0f7a4 wsJ6_bitCount_0f7a4) := goodIn_app (goodIn_of _ (by decide +kernel)) ggX2_fewestMisfits_J6_bitCount_0f7a4
set_option maxRecDepth 20000 in
theorem ggX2_fewestMisfits_X2_fewestFrom : GoodIn wsX2_fewestMisfits wsX2_fewestFrom := goodIn_r _ [13, 14, 15, 16, 17, 18, 19, 20, 12, 21, 22, 1, 23, 24] (by decide +kernel) (by decide +kernel)
set_option maxRecDepth 20000 in
theorem gX2_fewestMisfits_X2_fewestFrom : GoodIn wsX2_fewestMisfits (wsV RX2 34 RX2 yX2_fewestFrom wsX2_fewestFrom) := goodIn_app (goodIn_of _ (by decide +kernel)) ggX2_fewestMisfits_X2_fewestFrom
theorem dX2_fewestMisfits_0 : decode cX2_fewestMisfits 0 = .ok (.sipush 255, 3) := by decide +kernel
theorem dX2_fewestMisfits_3 : decode cX2_fewestMisfits 3 = .ok (.istore_n 2, 1) := by decide +kernel
theorem dX2_fewestMisfits_4 : decode cX2_fewestMisfits 4 = .ok (.iload_n 2, 1) := by decide +kernel
theorem dX2_fewestMisfits_5 : decode cX2_fewestMisfits 5 = .ok (.ifCond .lt 35, 3) := by decide +kernel
theorem dX2_fewestMisfits_8 : decode cX2_fewestMisfits 8 = .ok (.iload_n 2, 1) := by decide +kernel
theorem dX2_fewestMisfits_9 : decode cX2_fewestMisfits 9 = .ok (.invokestatic 28, 3) := by decide +kernel
theorem dX2_fewestMisfits_12 : decode cX2_fewestMisfits 12 = .ok (.istore_n 3, 1) := by decide +kernel
theorem dX2_fewestMisfits_13 : decode cX2_fewestMisfits 13 = .ok (.aload_n 0, 1) := by decide +kernel
theorem dX2_fewestMisfits_14 : decode cX2_fewestMisfits 14 = .ok (.getfield 15, 3) := by decide +kernel
theorem dX2_fewestMisfits_17 : decode cX2_fewestMisfits 17 = .ok (.iload_n 2, 1) := by decide +kernel
theorem dX2_fewestMisfits_18 : decode cX2_fewestMisfits 18 = .ok (.iload_n 3, 1) := by decide +kernel
theorem dX2_fewestMisfits_19 : decode cX2_fewestMisfits 19 = .ok (.iload_n 1, 1) := by decide +kernel
theorem dX2_fewestMisfits_20 : decode cX2_fewestMisfits 20 = .ok (.if_icmp .ge 12, 3) := by decide +kernel
theorem dX2_fewestMisfits_23 : decode cX2_fewestMisfits 23 = .ok (.aload_n 0, 1) := by decide +kernel
theorem dX2_fewestMisfits_24 : decode cX2_fewestMisfits 24 = .ok (.iload_n 3, 1) := by decide +kernel
theorem dX2_fewestMisfits_25 : decode cX2_fewestMisfits 25 = .ok (.iload_n 2, 1) := by decide +kernel
theorem dX2_fewestMisfits_26 : decode cX2_fewestMisfits 26 = .ok (.invokevirtual 34, 3) := by decide +kernel
theorem dX2_fewestMisfits_29 : decode cX2_fewestMisfits 29 = .ok (.goto 4, 3) := by decide +kernel
theorem dX2_fewestMisfits_32 : decode cX2_fewestMisfits 32 = .ok (.iconst 0, 1) := by decide +kernel
theorem dX2_fewestMisfits_33 : decode cX2_fewestMisfits 33 = .ok (.iastore, 1) := by decide +kernel
theorem dX2_fewestMisfits_34 : decode cX2_fewestMisfits 34 = .ok (.iinc 2 (-1), 3) := by decide +kernel
theorem dX2_fewestMisfits_37 : decode cX2_fewestMisfits 37 = .ok (.goto (-33), 3) := by decide +kernel
theorem dX2_fewestMisfits_40 : decode cX2_fewestMisfits 40 = .ok (.aload_n 0, 1) := by decide +kernel
theorem dX2_fewestMisfits_41 : decode cX2_fewestMisfits 41 = .ok (.getfield 15, 3) := by decide +kernel
theorem dX2_fewestMisfits_44 : decode cX2_fewestMisfits 44 = .ok (.iconst 0, 1) := by decide +kernel
theorem dX2_fewestMisfits_45 : decode cX2_fewestMisfits 45 = .ok (.iaload, 1) := by decide +kernel
theorem dX2_fewestMisfits_46 : decode cX2_fewestMisfits 46 = .ok (.ireturn, 1) := by decide +kernel
set_option maxRecDepth 20000 in
theorem ggX2_fewestFrom_X2_fewestWith : GoodIn wsX2_fewestFrom wsX2_fewestWith := goodIn_r _ [9, 10, 11, 12, 13] (by decide +kernel) (by decide +kernel)
set_option maxRecDepth 20000 in
theorem gX2_fewestFrom_X2_fewestWith : GoodIn wsX2_fewestFrom (wsV RX2 38 RX2 yX2_fewestWith wsX2_fewestWith) := goodIn_app (goodIn_of _ (by decide +kernel)) ggX2_fewestFrom_X2_fewestWith
theorem dX2_fewestFrom_0 : decode cX2_fewestFrom 0 = .ok (.sipush 128, 3) := by decide +kernel
theorem dX2_fewestFrom_3 : decode cX2_fewestFrom 3 = .ok (.istore_n 3, 1) := by decide +kernel
theorem dX2_fewestFrom_4 : decode cX2_fewestFrom 4 = .ok (.iconst 0, 1) := by decide +kernel
theorem dX2_fewestFrom_5 : decode cX2_fewestFrom 5 = .ok (.istore 4, 2) := by decide +kernel
theorem dX2_fewestFrom_7 : decode cX2_fewestFrom 7 = .ok (.iload 4, 2) := by decide +kernel
theorem dX2_fewestFrom_9 : decode cX2_fewestFrom 9 = .ok (.bipush 8, 2) := by decide +kernel
theorem dX2_fewestFrom_11 : decode cX2_fewestFrom 11 = .ok (.if_icmp .ge 31, 3) := by decide +kernel
theorem dX2_fewestFrom_14 : decode cX2_fewestFrom 14 = .ok (.iload_n 2, 1) := by decide +kernel
theorem dX2_fewestFrom_15 : decode cX2_fewestFrom 15 = .ok (.iload 4, 2) := by decide +kernel
theorem dX2_fewestFrom_17 : decode cX2_fewestFrom 17 = .ok (.ishr, 1) := by decide +kernel
theorem dX2_fewestFrom_18 : decode cX2_fewestFrom 18 = .ok (.iconst 1, 1) := by decide +kernel
theorem dX2_fewestFrom_19 : decode cX2_fewestFrom 19 = .ok (.iand, 1) := by decide +kernel
theorem dX2_fewestFrom_20 : decode cX2_fewestFrom 20 = .ok (.ifCond .ne 16, 3) := by decide +kernel
theorem dX2_fewestFrom_23 : decode cX2_fewestFrom 23 = .ok (.iload_n 3, 1) := by decide +kernel
theorem dX2_fewestFrom_24 : decode cX2_fewestFrom 24 = .ok (.aload_n 0, 1) := by decide +kernel
theorem dX2_fewestFrom_25 : decode cX2_fewestFrom 25 = .ok (.iload_n 1, 1) := by decide +kernel
theorem dX2_fewestFrom_26 : decode cX2_fewestFrom 26 = .ok (.iload 4, 2) := by decide +kernel
theorem dX2_fewestFrom_28 : decode cX2_fewestFrom 28 = .ok (.iload_n 2, 1) := by decide +kernel
theorem dX2_fewestFrom_29 : decode cX2_fewestFrom 29 = .ok (.invokevirtual 38, 3) := by decide +kernel
theorem dX2_fewestFrom_32 : decode cX2_fewestFrom 32 = .ok (.invokestatic 42, 3) := by decide +kernel
theorem dX2_fewestFrom_35 : decode cX2_fewestFrom 35 = .ok (.istore_n 3, 1) := by decide +kernel
theorem dX2_fewestFrom_36 : decode cX2_fewestFrom 36 = .ok (.iinc 4 1, 3) := by decide +kernel
theorem dX2_fewestFrom_39 : decode cX2_fewestFrom 39 = .ok (.goto (-32), 3) := by decide +kernel
theorem dX2_fewestFrom_42 : decode cX2_fewestFrom 42 = .ok (.iload_n 3, 1) := by decide +kernel
theorem dX2_fewestFrom_43 : decode cX2_fewestFrom 43 = .ok (.ireturn, 1) := by decide +kernel
theorem dX2_fewestWith_0 : decode cX2_fewestWith 0 = .ok (.aload_n 0, 1) := by decide +kernel
theorem dX2_fewestWith_1 : decode cX2_fewestWith 1 = .ok (.getfield 9, 3) := by decide +kernel
theorem dX2_fewestWith_4 : decode cX2_fewestWith 4 = .ok (.iload_n 1, 1) := by decide +kernel
theorem dX2_fewestWith_5 : decode cX2_fewestWith 5 = .ok (.bipush 8, 2) := by decide +kernel
theorem dX2_fewestWith_7 : decode cX2_fewestWith 7 = .ok (.imul, 1) := by decide +kernel
theorem dX2_fewestWith_8 : decode cX2_fewestWith 8 = .ok (.iload_n 2, 1) := by decide +kernel
theorem dX2_fewestWith_9 : decode cX2_fewestWith 9 = .ok (.iadd, 1) := by decide +kernel
theorem dX2_fewestWith_10 : decode cX2_fewestWith 10 = .ok (.iaload, 1) := by decide +kernel
theorem dX2_fewestWith_11 : decode cX2_fewestWith 11 = .ok (.aload_n 0, 1) := by decide +kernel
theorem dX2_fewestWith_12 : decode cX2_fewestWith 12 = .ok (.getfield 15, 3) := by decide +kernel
theorem dX2_fewestWith_15 : decode cX2_fewestWith 15 = .ok (.iload_n 3, 1) := by decide +kernel
theorem dX2_fewestWith_16 : decode cX2_fewestWith 16 = .ok (.iconst 1, 1) := by decide +kernel
theorem dX2_fewestWith_17 : decode cX2_fewestWith 17 = .ok (.iload_n 2, 1) := by decide +kernel
theorem dX2_fewestWith_18 : decode cX2_fewestWith 18 = .ok (.ishl, 1) := by decide +kernel
theorem dX2_fewestWith_19 : decode cX2_fewestWith 19 = .ok (.ior, 1) := by decide +kernel
theorem dX2_fewestWith_20 : decode cX2_fewestWith 20 = .ok (.iaload, 1) := by decide +kernel
theorem dX2_fewestWith_21 : decode cX2_fewestWith 21 = .ok (.iadd, 1) := by decide +kernel
theorem dX2_fewestWith_22 : decode cX2_fewestWith 22 = .ok (.ireturn, 1) := by decide +kernel
set_option maxRecDepth 20000 in
theorem ggX2_seat_X2_fewestMisfits : GoodIn wsX2_seat wsX2_fewestMisfits := goodIn_r _ [7, 8, 9, 10, 11, 12, 13, 14, 15, 16, 17, 18, 6, 19, 20, 21, 22, 23, 24, 25, 26, 27, 28, 41, 42] (by decide +kernel) (by decide +kernel)
set_option maxRecDepth 20000 in
theorem gX2_seat_X2_fewestMisfits : GoodIn wsX2_seat (wsV RX2 47 RX2 yX2_fewestMisfits wsX2_fewestMisfits) := goodIn_app (goodIn_of _ (by decide +kernel)) ggX2_seat_X2_fewestMisfits
set_option maxRecDepth 20000 in
theorem ggX2_seat_X2_lowestBestRow : GoodIn wsX2_seat wsX2_lowestBestRow := goodIn_r _ [32, 8, 24, 25, 26, 6, 27, 28, 41, 42] (by decide +kernel) (by decide +kernel)
set_option maxRecDepth 20000 in
theorem gX2_seat_X2_lowestBestRow : GoodIn wsX2_seat (wsV RX2 50 RX2 yX2_lowestBestRow wsX2_lowestBestRow) := goodIn_app (goodIn_of _ (by decide +kernel)) ggX2_seat_X2_lowestBestRow
theorem dX2_seat_0 : decode cX2_seat 0 = .ok (.aload_n 0, 1) := by decide +kernel
theorem dX2_seat_1 : decode cX2_seat 1 = .ok (.aload_n 1, 1) := by decide +kernel
theorem dX2_seat_2 : decode cX2_seat 2 = .ok (.getfield 18, 3) := by decide +kernel
theorem dX2_seat_5 : decode cX2_seat 5 = .ok (.invokevirtual 47, 3) := by decide +kernel
theorem dX2_seat_8 : decode cX2_seat 8 = .ok (.pop, 1) := by decide +kernel
theorem dX2_seat_9 : decode cX2_seat 9 = .ok (.iconst 0, 1) := by decide +kernel
theorem dX2_seat_10 : decode cX2_seat 10 = .ok (.istore_n 2, 1) := by decide +kernel
theorem dX2_seat_11 : decode cX2_seat 11 = .ok (.iconst 0, 1) := by decide +kernel
theorem dX2_seat_12 : decode cX2_seat 12 = .ok (.istore_n 3, 1) := by decide +kernel
theorem dX2_seat_13 : decode cX2_seat 13 = .ok (.iload_n 3, 1) := by decide +kernel
theorem dX2_seat_14 : decode cX2_seat 14 = .ok (.aload_n 1, 1) := by decide +kernel
theorem dX2_seat_15 : decode cX2_seat 15 = .ok (.getfield 18, 3) := by decide +kernel
theorem dX2_seat_18 : decode cX2_seat 18 = .ok (.if_icmp .ge 32, 3) := by decide +kernel
theorem dX2_seat_21 : decode cX2_seat 21 = .ok (.aload_n 0, 1) := by decide +kernel
theorem dX2_seat_22 : decode cX2_seat 22 = .ok (.iload_n 3, 1) := by decide +kernel
theorem dX2_seat_23 : decode cX2_seat 23 = .ok (.iload_n 2, 1) := by decide +kernel
theorem dX2_seat_24 : decode cX2_seat 24 = .ok (.invokevirtual 50, 3) := by decide +kernel
theorem dX2_seat_27 : decode cX2_seat 27 = .ok (.istore 4, 2) := by decide +kernel
theorem dX2_seat_29 : decode cX2_seat 29 = .ok (.aload_n 1, 1) := by decide +kernel
theorem dX2_seat_30 : decode cX2_seat 30 = .ok (.getfield 53, 3) := by decide +kernel
theorem dX2_seat_33 : decode cX2_seat 33 = .ok (.iload_n 3, 1) := by decide +kernel
theorem dX2_seat_34 : decode cX2_seat 34 = .ok (.iload 4, 2) := by decide +kernel
theorem dX2_seat_36 : decode cX2_seat 36 = .ok (.iastore, 1) := by decide +kernel
theorem dX2_seat_37 : decode cX2_seat 37 = .ok (.iload_n 2, 1) := by decide +kernel
theorem dX2_seat_38 : decode cX2_seat 38 = .ok (.iconst 1, 1) := by decide +kernel
theorem dX2_seat_39 : decode cX2_seat 39 = .ok (.iload 4, 2) := by decide +kernel
theorem dX2_seat_41 : decode cX2_seat 41 = .ok (.ishl, 1) := by decide +kernel
theorem dX2_seat_42 : decode cX2_seat 42 = .ok (.ior, 1) := by decide +kernel
theorem dX2_seat_43 : decode cX2_seat 43 = .ok (.istore_n 2, 1) := by decide +kernel
theorem dX2_seat_44 : decode cX2_seat 44 = .ok (.iinc 3 1, 3) := by decide +kernel
theorem dX2_seat_47 : decode cX2_seat 47 = .ok (.goto (-34), 3) := by decide +kernel
theorem dX2_seat_50 : decode cX2_seat 50 = .ok (.return_, 1) := by decide +kernel
set_option maxRecDepth 20000 in
theorem ggX2_lowestBestRow_X2_fewestWith : GoodIn wsX2_lowestBestRow wsX2_fewestWith := goodIn_r _ [6, 7, 1, 8, 9] (by decide +kernel) (by decide +kernel)
set_option maxRecDepth 20000 in
theorem gX2_lowestBestRow_X2_fewestWith : GoodIn wsX2_lowestBestRow (wsV RX2 38 RX2 yX2_fewestWith wsX2_fewestWith) := goodIn_app (goodIn_of _ (by decide +kernel)) ggX2_lowestBestRow_X2_fewestWith
theorem dX2_lowestBestRow_0 : decode cX2_lowestBestRow 0 = .ok (.iconst 0, 1) := by decide +kernel
theorem dX2_lowestBestRow_1 : decode cX2_lowestBestRow 1 = .ok (.istore_n 3, 1) := by decide +kernel
theorem dX2_lowestBestRow_2 : decode cX2_lowestBestRow 2 = .ok (.iload_n 3, 1) := by decide +kernel
theorem dX2_lowestBestRow_3 : decode cX2_lowestBestRow 3 = .ok (.bipush 7, 2) := by decide +kernel
theorem dX2_lowestBestRow_5 : decode cX2_lowestBestRow 5 = .ok (.if_icmp .ge 35, 3) := by decide +kernel
theorem dX2_lowestBestRow_8 : decode cX2_lowestBestRow 8 = .ok (.iload_n 2, 1) := by decide +kernel
theorem dX2_lowestBestRow_9 : decode cX2_lowestBestRow 9 = .ok (.iload_n 3, 1) := by decide +kernel
theorem dX2_lowestBestRow_10 : decode cX2_lowestBestRow 10 = .ok (.ishr, 1) := by decide +kernel
theorem dX2_lowestBestRow_11 : decode cX2_lowestBestRow 11 = .ok (.iconst 1, 1) := by decide +kernel
theorem dX2_lowestBestRow_12 : decode cX2_lowestBestRow 12 = .ok (.iand, 1) := by decide +kernel
theorem dX2_lowestBestRow_13 : decode cX2_lowestBestRow 13 = .ok (.ifCond .ne 21, 3) := by decide +kernel
theorem dX2_lowestBestRow_16 : decode cX2_lowestBestRow 16 = .ok (.aload_n 0, 1) := by decide +kernel
theorem dX2_lowestBestRow_17 : decode cX2_lowestBestRow 17 = .ok (.iload_n 1, 1) := by decide +kernel
theorem dX2_lowestBestRow_18 : decode cX2_lowestBestRow 18 = .ok (.iload_n 3, 1) := by decide +kernel
theorem dX2_lowestBestRow_19 : decode cX2_lowestBestRow 19 = .ok (.iload_n 2, 1) := by decide +kernel
theorem dX2_lowestBestRow_20 : decode cX2_lowestBestRow 20 = .ok (.invokevirtual 38, 3) := by decide +kernel
theorem dX2_lowestBestRow_23 : decode cX2_lowestBestRow 23 = .ok (.aload_n 0, 1) := by decide +kernel
theorem dX2_lowestBestRow_24 : decode cX2_lowestBestRow 24 = .ok (.getfield 15, 3) := by decide +kernel
theorem dX2_lowestBestRow_27 : decode cX2_lowestBestRow 27 = .ok (.iload_n 2, 1) := by decide +kernel
theorem dX2_lowestBestRow_28 : decode cX2_lowestBestRow 28 = .ok (.iaload, 1) := by decide +kernel
theorem dX2_lowestBestRow_29 : decode cX2_lowestBestRow 29 = .ok (.if_icmp .ne 5, 3) := by decide +kernel
theorem dX2_lowestBestRow_32 : decode cX2_lowestBestRow 32 = .ok (.iload_n 3, 1) := by decide +kernel
theorem dX2_lowestBestRow_33 : decode cX2_lowestBestRow 33 = .ok (.ireturn, 1) := by decide +kernel
theorem dX2_lowestBestRow_34 : decode cX2_lowestBestRow 34 = .ok (.iinc 3 1, 3) := by decide +kernel
theorem dX2_lowestBestRow_37 : decode cX2_lowestBestRow 37 = .ok (.goto (-35), 3) := by decide +kernel
theorem dX2_lowestBestRow_40 : decode cX2_lowestBestRow 40 = .ok (.bipush 7, 2) := by decide +kernel
theorem dX2_lowestBestRow_42 : decode cX2_lowestBestRow 42 = .ok (.ireturn, 1) := by decide +kernel
set_option maxRecDepth 20000 in
theorem ggX2_fewestOfAllWays_X2_misfitsOfWay : GoodIn wsX2_fewestOfAllWays wsX2_misfitsOfWay := goodIn_r _ [9, 10, 11, 12] (by decide +kernel) (by decide +kernel)
set_option maxRecDepth 20000 in
theorem gX2_fewestOfAllWays_X2_misfitsOfWay : GoodIn wsX2_fewestOfAllWays (wsV RX2 56 RX2 yX2_misfitsOfWay wsX2_misfitsOfWay) := goodIn_app (goodIn_of _ (by decide +kernel)) ggX2_fewestOfAllWays_X2_misfitsOfWay
theorem dX2_fewestOfAllWays_0 : decode cX2_fewestOfAllWays 0 = .ok (.sipush 128, 3) := by decide +kernel
theorem dX2_fewestOfAllWays_3 : decode cX2_fewestOfAllWays 3 = .ok (.istore_n 2, 1) := by decide +kernel
theorem dX2_fewestOfAllWays_4 : decode cX2_fewestOfAllWays 4 = .ok (.iconst 1, 1) := by decide +kernel
theorem dX2_fewestOfAllWays_5 : decode cX2_fewestOfAllWays 5 = .ok (.iconst 3, 1) := by decide +kernel
theorem dX2_fewestOfAllWays_6 : decode cX2_fewestOfAllWays 6 = .ok (.iload_n 1, 1) := by decide +kernel
theorem dX2_fewestOfAllWays_7 : decode cX2_fewestOfAllWays 7 = .ok (.imul, 1) := by decide +kernel
theorem dX2_fewestOfAllWays_8 : decode cX2_fewestOfAllWays 8 = .ok (.ishl, 1) := by decide +kernel
theorem dX2_fewestOfAllWays_9 : decode cX2_fewestOfAllWays 9 = .ok (.istore_n 3, 1) := by decide +kernel
theorem dX2_fewestOfAllWays_10 : decode cX2_fewestOfAllWays 10 = .ok (.iconst 0, 1) := by decide +kernel
theorem dX2_fewestOfAllWays_11 : decode cX2_fewestOfAllWays 11 = .ok (.istore 4, 2) := by decide +kernel
theorem dX2_fewestOfAllWays_13 : decode cX2_fewestOfAllWays 13 = .ok (.iload 4, 2) := by decide +kernel
theorem dX2_fewestOfAllWays_15 : decode cX2_fewestOfAllWays 15 = .ok (.iload_n 3, 1) := by decide +kernel
theorem dX2_fewestOfAllWays_16 : decode cX2_fewestOfAllWays 16 = .ok (.if_icmp .ge 21, 3) := by decide +kernel
theorem dX2_fewestOfAllWays_19 : decode cX2_fewestOfAllWays 19 = .ok (.iload_n 2, 1) := by decide +kernel
theorem dX2_fewestOfAllWays_20 : decode cX2_fewestOfAllWays 20 = .ok (.aload_n 0, 1) := by decide +kernel
theorem dX2_fewestOfAllWays_21 : decode cX2_fewestOfAllWays 21 = .ok (.iload 4, 2) := by decide +kernel
theorem dX2_fewestOfAllWays_23 : decode cX2_fewestOfAllWays 23 = .ok (.iload_n 1, 1) := by decide +kernel
theorem dX2_fewestOfAllWays_24 : decode cX2_fewestOfAllWays 24 = .ok (.invokevirtual 56, 3) := by decide +kernel
theorem dX2_fewestOfAllWays_27 : decode cX2_fewestOfAllWays 27 = .ok (.invokestatic 42, 3) := by decide +kernel
theorem dX2_fewestOfAllWays_30 : decode cX2_fewestOfAllWays 30 = .ok (.istore_n 2, 1) := by decide +kernel
theorem dX2_fewestOfAllWays_31 : decode cX2_fewestOfAllWays 31 = .ok (.iinc 4 1, 3) := by decide +kernel
theorem dX2_fewestOfAllWays_34 : decode cX2_fewestOfAllWays 34 = .ok (.goto (-21), 3) := by decide +kernel
theorem dX2_fewestOfAllWays_37 : decode cX2_fewestOfAllWays 37 = .ok (.iload_n 2, 1) := by decide +kernel
theorem dX2_fewestOfAllWays_38 : decode cX2_fewestOfAllWays 38 = .ok (.ireturn, 1) := by decide +kernel
theorem dX2_misfitsOfWay_0 : decode cX2_misfitsOfWay 0 = .ok (.iconst 0, 1) := by decide +kernel
theorem dX2_misfitsOfWay_1 : decode cX2_misfitsOfWay 1 = .ok (.istore_n 3, 1) := by decide +kernel
theorem dX2_misfitsOfWay_2 : decode cX2_misfitsOfWay 2 = .ok (.iconst 0, 1) := by decide +kernel
theorem dX2_misfitsOfWay_3 : decode cX2_misfitsOfWay 3 = .ok (.istore 4, 2) := by decide +kernel
theorem dX2_misfitsOfWay_5 : decode cX2_misfitsOfWay 5 = .ok (.iconst 0, 1) := by decide +kernel
theorem dX2_misfitsOfWay_6 : decode cX2_misfitsOfWay 6 = .ok (.istore 5, 2) := by decide +kernel
theorem dX2_misfitsOfWay_8 : decode cX2_misfitsOfWay 8 = .ok (.iload 5, 2) := by decide +kernel
theorem dX2_misfitsOfWay_10 : decode cX2_misfitsOfWay 10 = .ok (.iload_n 2, 1) := by decide +kernel
theorem dX2_misfitsOfWay_11 : decode cX2_misfitsOfWay 11 = .ok (.if_icmp .ge 60, 3) := by decide +kernel
theorem dX2_misfitsOfWay_14 : decode cX2_misfitsOfWay 14 = .ok (.iload_n 1, 1) := by decide +kernel
theorem dX2_misfitsOfWay_15 : decode cX2_misfitsOfWay 15 = .ok (.iconst 3, 1) := by decide +kernel
theorem dX2_misfitsOfWay_16 : decode cX2_misfitsOfWay 16 = .ok (.iload 5, 2) := by decide +kernel
theorem dX2_misfitsOfWay_18 : decode cX2_misfitsOfWay 18 = .ok (.imul, 1) := by decide +kernel
theorem dX2_misfitsOfWay_19 : decode cX2_misfitsOfWay 19 = .ok (.ishr, 1) := by decide +kernel
theorem dX2_misfitsOfWay_20 : decode cX2_misfitsOfWay 20 = .ok (.bipush 7, 2) := by decide +kernel
theorem dX2_misfitsOfWay_22 : decode cX2_misfitsOfWay 22 = .ok (.iand, 1) := by decide +kernel
theorem dX2_misfitsOfWay_23 : decode cX2_misfitsOfWay 23 = .ok (.istore 6, 2) := by decide +kernel
theorem dX2_misfitsOfWay_25 : decode cX2_misfitsOfWay 25 = .ok (.iload 4, 2) := by decide +kernel
theorem dX2_misfitsOfWay_27 : decode cX2_misfitsOfWay 27 = .ok (.iload 6, 2) := by decide +kernel
theorem dX2_misfitsOfWay_29 : decode cX2_misfitsOfWay 29 = .ok (.ishr, 1) := by decide +kernel
theorem dX2_misfitsOfWay_30 : decode cX2_misfitsOfWay 30 = .ok (.iconst 1, 1) := by decide +kernel
theorem dX2_misfitsOfWay_31 : decode cX2_misfitsOfWay 31 = .ok (.iand, 1) := by decide +kernel
theorem dX2_misfitsOfWay_32 : decode cX2_misfitsOfWay 32 = .ok (.iconst 1, 1) := by decide +kernel
theorem dX2_misfitsOfWay_33 : decode cX2_misfitsOfWay 33 = .ok (.if_icmp .ne 7, 3) := by decide +kernel
theorem dX2_misfitsOfWay_36 : decode cX2_misfitsOfWay 36 = .ok (.sipush 128, 3) := by decide +kernel
theorem dX2_misfitsOfWay_39 : decode cX2_misfitsOfWay 39 = .ok (.ireturn, 1) := by decide +kernel
theorem dX2_misfitsOfWay_40 : decode cX2_misfitsOfWay 40 = .ok (.iload 4, 2) := by decide +kernel
theorem dX2_misfitsOfWay_42 : decode cX2_misfitsOfWay 42 = .ok (.iconst 1, 1) := by decide +kernel
theorem dX2_misfitsOfWay_43 : decode cX2_misfitsOfWay 43 = .ok (.iload 6, 2) := by decide +kernel
theorem dX2_misfitsOfWay_45 : decode cX2_misfitsOfWay 45 = .ok (.ishl, 1) := by decide +kernel
theorem dX2_misfitsOfWay_46 : decode cX2_misfitsOfWay 46 = .ok (.ior, 1) := by decide +kernel
theorem dX2_misfitsOfWay_47 : decode cX2_misfitsOfWay 47 = .ok (.istore 4, 2) := by decide +kernel
theorem dX2_misfitsOfWay_49 : decode cX2_misfitsOfWay 49 = .ok (.iload_n 3, 1) := by decide +kernel
theorem dX2_misfitsOfWay_50 : decode cX2_misfitsOfWay 50 = .ok (.aload_n 0, 1) := by decide +kernel
theorem dX2_misfitsOfWay_51 : decode cX2_misfitsOfWay 51 = .ok (.getfield 9, 3) := by decide +kernel
theorem dX2_misfitsOfWay_54 : decode cX2_misfitsOfWay 54 = .ok (.iload 5, 2) := by decide +kernel
theorem dX2_misfitsOfWay_56 : decode cX2_misfitsOfWay 56 = .ok (.bipush 8, 2) := by decide +kernel
theorem dX2_misfitsOfWay_58 : decode cX2_misfitsOfWay 58 = .ok (.imul, 1) := by decide +kernel
theorem dX2_misfitsOfWay_59 : decode cX2_misfitsOfWay 59 = .ok (.iload 6, 2) := by decide +kernel
theorem dX2_misfitsOfWay_61 : decode cX2_misfitsOfWay 61 = .ok (.iadd, 1) := by decide +kernel
theorem dX2_misfitsOfWay_62 : decode cX2_misfitsOfWay 62 = .ok (.iaload, 1) := by decide +kernel
theorem dX2_misfitsOfWay_63 : decode cX2_misfitsOfWay 63 = .ok (.iadd, 1) := by decide +kernel
theorem dX2_misfitsOfWay_64 : decode cX2_misfitsOfWay 64 = .ok (.istore_n 3, 1) := by decide +kernel
theorem dX2_misfitsOfWay_65 : decode cX2_misfitsOfWay 65 = .ok (.iinc 5 1, 3) := by decide +kernel
theorem dX2_misfitsOfWay_68 : decode cX2_misfitsOfWay 68 = .ok (.goto (-60), 3) := by decide +kernel
theorem dX2_misfitsOfWay_71 : decode cX2_misfitsOfWay 71 = .ok (.iload_n 3, 1) := by decide +kernel
theorem dX2_misfitsOfWay_72 : decode cX2_misfitsOfWay 72 = .ok (.ireturn, 1) := by decide +kernel
theorem dX3_init_0 : decode cX3_init 0 = .ok (.aload_n 0, 1) := by decide +kernel
theorem dX3_init_1 : decode cX3_init 1 = .ok (.invokespecial 1, 3) := by decide +kernel
theorem dX3_init_4 : decode cX3_init 4 = .ok (.aload_n 0, 1) := by decide +kernel
theorem dX3_init_5 : decode cX3_init 5 = .ok (.iconst 0, 1) := by decide +kernel
theorem dX3_init_6 : decode cX3_init 6 = .ok (.putfield 7, 3) := by decide +kernel
theorem dX3_init_9 : decode cX3_init 9 = .ok (.aload_n 0, 1) := by decide +kernel
theorem dX3_init_10 : decode cX3_init 10 = .ok (.iconst 0, 1) := by decide +kernel
theorem dX3_init_11 : decode cX3_init 11 = .ok (.putfield 13, 3) := by decide +kernel
theorem dX3_init_14 : decode cX3_init 14 = .ok (.aload_n 0, 1) := by decide +kernel
theorem dX3_init_15 : decode cX3_init 15 = .ok (.sipush 1000, 3) := by decide +kernel
theorem dX3_init_18 : decode cX3_init 18 = .ok (.putfield 16, 3) := by decide +kernel
theorem dX3_init_21 : decode cX3_init 21 = .ok (.return_, 1) := by decide +kernel
theorem dX4_init_0 : decode cX4_init 0 = .ok (.aload_n 0, 1) := by decide +kernel
theorem dX4_init_1 : decode cX4_init 1 = .ok (.invokespecial 3, 3) := by decide +kernel
theorem dX4_init_4 : decode cX4_init 4 = .ok (.aload_n 0, 1) := by decide +kernel
theorem dX4_init_5 : decode cX4_init 5 = .ok (.sipush 128, 3) := by decide +kernel
theorem dX4_init_8 : decode cX4_init 8 = .ok (.newarray .int, 2) := by decide +kernel
theorem dX4_init_10 : decode cX4_init 10 = .ok (.putfield 9, 3) := by decide +kernel
theorem dX4_init_13 : decode cX4_init 13 = .ok (.aload_n 0, 1) := by decide +kernel
theorem dX4_init_14 : decode cX4_init 14 = .ok (.sipush 128, 3) := by decide +kernel
theorem dX4_init_17 : decode cX4_init 17 = .ok (.newarray .int, 2) := by decide +kernel
theorem dX4_init_19 : decode cX4_init 19 = .ok (.putfield 15, 3) := by decide +kernel
theorem dX4_init_22 : decode cX4_init 22 = .ok (.aload_n 0, 1) := by decide +kernel
theorem dX4_init_23 : decode cX4_init 23 = .ok (.sipush 128, 3) := by decide +kernel
theorem dX4_init_26 : decode cX4_init 26 = .ok (.newarray .int, 2) := by decide +kernel
theorem dX4_init_28 : decode cX4_init 28 = .ok (.putfield 18, 3) := by decide +kernel
theorem dX4_init_31 : decode cX4_init 31 = .ok (.aload_n 0, 1) := by decide +kernel
theorem dX4_init_32 : decode cX4_init 32 = .ok (.sipush 128, 3) := by decide +kernel
theorem dX4_init_35 : decode cX4_init 35 = .ok (.newarray .boolean, 2) := by decide +kernel
theorem dX4_init_37 : decode cX4_init 37 = .ok (.putfield 21, 3) := by decide +kernel
theorem dX4_init_40 : decode cX4_init 40 = .ok (.aload_n 0, 1) := by decide +kernel
theorem dX4_init_41 : decode cX4_init 41 = .ok (.sipush 128, 3) := by decide +kernel
theorem dX4_init_44 : decode cX4_init 44 = .ok (.newarray .boolean, 2) := by decide +kernel
theorem dX4_init_46 : decode cX4_init 46 = .ok (.putfield 25, 3) := by decide +kernel
theorem dX4_init_49 : decode cX4_init 49 = .ok (.aload_n 0, 1) := by decide +kernel
theorem dX4_init_50 : decode cX4_init 50 = .ok (.bipush 16, 2) := by decide +kernel
theorem dX4_init_52 : decode cX4_init 52 = .ok (.newarray .int, 2) := by decide +kernel
theorem dX4_init_54 : decode cX4_init 54 = .ok (.putfield 28, 3) := by decide +kernel
theorem dX4_init_57 : decode cX4_init 57 = .ok (.aload_n 0, 1) := by decide +kernel
theorem dX4_init_58 : decode cX4_init 58 = .ok (.iconst 1, 1) := by decide +kernel
theorem dX4_init_59 : decode cX4_init 59 = .ok (.putfield 31, 3) := by decide +kernel
theorem dX4_init_62 : decode cX4_init 62 = .ok (.aload_n 0, 1) := by decide +kernel
theorem dX4_init_63 : decode cX4_init 63 = .ok (.bipush 127, 2) := by decide +kernel
theorem dX4_init_65 : decode cX4_init 65 = .ok (.putfield 35, 3) := by decide +kernel
theorem dX4_init_68 : decode cX4_init 68 = .ok (.aload_n 0, 1) := by decide +kernel
theorem dX4_init_69 : decode cX4_init 69 = .ok (.iconst 0, 1) := by decide +kernel
theorem dX4_init_70 : decode cX4_init 70 = .ok (.putfield 38, 3) := by decide +kernel
theorem dX4_init_73 : decode cX4_init 73 = .ok (.aload_n 0, 1) := by decide +kernel
theorem dX4_init_74 : decode cX4_init 74 = .ok (.iconst 4, 1) := by decide +kernel
theorem dX4_init_75 : decode cX4_init 75 = .ok (.putfield 42, 3) := by decide +kernel
theorem dX4_init_78 : decode cX4_init 78 = .ok (.aload_n 0, 1) := by decide +kernel
theorem dX4_init_79 : decode cX4_init 79 = .ok (.iconst 0, 1) := by decide +kernel
theorem dX4_init_80 : decode cX4_init 80 = .ok (.putfield 45, 3) := by decide +kernel
theorem dX4_init_83 : decode cX4_init 83 = .ok (.aload_n 0, 1) := by decide +kernel
theorem dX4_init_84 : decode cX4_init 84 = .ok (.iload_n 1, 1) := by decide +kernel
theorem dX4_init_85 : decode cX4_init 85 = .ok (.putfield 48, 3) := by decide +kernel
theorem dX4_init_88 : decode cX4_init 88 = .ok (.return_, 1) := by decide +kernel
set_option maxRecDepth 20000 in
theorem ggX4_conducted_X5_indexOf : GoodIn wsX4_conducted wsX5_indexOf := goodIn_r _ [12] (by decide +kernel) (by decide +kernel)
set_option maxRecDepth 20000 in
theorem gX4_conducted_X5_indexOf_n51 : GoodIn wsX4_conducted (wsX5_indexOf) := ggX4_conducted_X5_indexOf
set_option maxRecDepth 20000 in
theorem ggX4_conducted_X5_quotient : GoodIn wsX4_conducted wsX5_quotient := goodIn_r _ [14] (by decide +kernel) (by decide +kernel)
set_option maxRecDepth 20000 in
theorem gX4_conducted_X5_quotient_n63 : GoodIn wsX4_conducted (wsX5_quotient) := ggX4_conducted_X5_quotient
theorem dX4_conducted_0 : decode cX4_conducted 0 = .ok (.iload_n 1, 1) := by decide +kernel
theorem dX4_conducted_1 : decode cX4_conducted 1 = .ok (.iload_n 2, 1) := by decide +kernel
theorem dX4_conducted_2 : decode cX4_conducted 2 = .ok (.invokestatic 51, 3) := by decide +kernel
theorem dX4_conducted_5 : decode cX4_conducted 5 = .ok (.istore 4, 2) := by decide +kernel
theorem dX4_conducted_7 : decode cX4_conducted 7 = .ok (.aload_n 3, 1) := by decide +kernel
theorem dX4_conducted_8 : decode cX4_conducted 8 = .ok (.getfield 55, 3) := by decide +kernel
theorem dX4_conducted_11 : decode cX4_conducted 11 = .ok (.ifCond .eq 13, 3) := by decide +kernel
theorem dX4_conducted_14 : decode cX4_conducted 14 = .ok (.aload_n 0, 1) := by decide +kernel
theorem dX4_conducted_15 : decode cX4_conducted 15 = .ok (.getfield 21, 3) := by decide +kernel
theorem dX4_conducted_18 : decode cX4_conducted 18 = .ok (.iload 4, 2) := by decide +kernel
theorem dX4_conducted_20 : decode cX4_conducted 20 = .ok (.baload, 1) := by decide +kernel
theorem dX4_conducted_21 : decode cX4_conducted 21 = .ok (.ifCond .eq 11, 3) := by decide +kernel
theorem dX4_conducted_24 : decode cX4_conducted 24 = .ok (.aload_n 0, 1) := by decide +kernel
theorem dX4_conducted_25 : decode cX4_conducted 25 = .ok (.getfield 9, 3) := by decide +kernel
theorem dX4_conducted_28 : decode cX4_conducted 28 = .ok (.iload 4, 2) := by decide +kernel
theorem dX4_conducted_30 : decode cX4_conducted 30 = .ok (.iaload, 1) := by decide +kernel
theorem dX4_conducted_31 : decode cX4_conducted 31 = .ok (.ireturn, 1) := by decide +kernel
theorem dX4_conducted_32 : decode cX4_conducted 32 = .ok (.aload_n 3, 1) := by decide +kernel
theorem dX4_conducted_33 : decode cX4_conducted 33 = .ok (.getfield 60, 3) := by decide +kernel
theorem dX4_conducted_36 : decode cX4_conducted 36 = .ok (.aload_n 0, 1) := by decide +kernel
theorem dX4_conducted_37 : decode cX4_conducted 37 = .ok (.getfield 18, 3) := by decide +kernel
theorem dX4_conducted_40 : decode cX4_conducted 40 = .ok (.iload 4, 2) := by decide +kernel
theorem dX4_conducted_42 : decode cX4_conducted 42 = .ok (.iaload, 1) := by decide +kernel
theorem dX4_conducted_43 : decode cX4_conducted 43 = .ok (.isub, 1) := by decide +kernel
theorem dX4_conducted_44 : decode cX4_conducted 44 = .ok (.aload_n 3, 1) := by decide +kernel
theorem dX4_conducted_45 : decode cX4_conducted 45 = .ok (.getfield 55, 3) := by decide +kernel
theorem dX4_conducted_48 : decode cX4_conducted 48 = .ok (.invokestatic 63, 3) := by decide +kernel
theorem dX4_conducted_51 : decode cX4_conducted 51 = .ok (.istore 5, 2) := by decide +kernel
theorem dX4_conducted_53 : decode cX4_conducted 53 = .ok (.iconst 0, 1) := by decide +kernel
theorem dX4_conducted_54 : decode cX4_conducted 54 = .ok (.aload_n 0, 1) := by decide +kernel
theorem dX4_conducted_55 : decode cX4_conducted 55 = .ok (.getfield 9, 3) := by decide +kernel
theorem dX4_conducted_58 : decode cX4_conducted 58 = .ok (.iload 4, 2) := by decide +kernel
theorem dX4_conducted_60 : decode cX4_conducted 60 = .ok (.iaload, 1) := by decide +kernel
theorem dX4_conducted_61 : decode cX4_conducted 61 = .ok (.iload 5, 2) := by decide +kernel
theorem dX4_conducted_63 : decode cX4_conducted 63 = .ok (.isub, 1) := by decide +kernel
theorem dX4_conducted_64 : decode cX4_conducted 64 = .ok (.invokestatic 66, 3) := by decide +kernel
theorem dX4_conducted_67 : decode cX4_conducted 67 = .ok (.ireturn, 1) := by decide +kernel
set_option maxRecDepth 20000 in
theorem ggX4_becomesStuck_X5_indexOf : GoodIn wsX4_becomesStuck wsX5_indexOf := goodIn_r _ [5] (by decide +kernel) (by decide +kernel)
set_option maxRecDepth 20000 in
theorem gX4_becomesStuck_X5_indexOf_n51 : GoodIn wsX4_becomesStuck (wsX5_indexOf) := ggX4_becomesStuck_X5_indexOf
theorem dX4_becomesStuck_0 : decode cX4_becomesStuck 0 = .ok (.iload_n 1, 1) := by decide +kernel
theorem dX4_becomesStuck_1 : decode cX4_becomesStuck 1 = .ok (.iload_n 2, 1) := by decide +kernel
theorem dX4_becomesStuck_2 : decode cX4_becomesStuck 2 = .ok (.invokestatic 51, 3) := by decide +kernel
theorem dX4_becomesStuck_5 : decode cX4_becomesStuck 5 = .ok (.istore 4, 2) := by decide +kernel
theorem dX4_becomesStuck_7 : decode cX4_becomesStuck 7 = .ok (.aload_n 0, 1) := by decide +kernel
theorem dX4_becomesStuck_8 : decode cX4_becomesStuck 8 = .ok (.getfield 21, 3) := by decide +kernel
theorem dX4_becomesStuck_11 : decode cX4_becomesStuck 11 = .ok (.iload 4, 2) := by decide +kernel
theorem dX4_becomesStuck_13 : decode cX4_becomesStuck 13 = .ok (.baload, 1) := by decide +kernel
theorem dX4_becomesStuck_14 : decode cX4_becomesStuck 14 = .ok (.ifCond .eq 5, 3) := by decide +kernel
theorem dX4_becomesStuck_17 : decode cX4_becomesStuck 17 = .ok (.iconst 0, 1) := by decide +kernel
theorem dX4_becomesStuck_18 : decode cX4_becomesStuck 18 = .ok (.ireturn, 1) := by decide +kernel
theorem dX4_becomesStuck_19 : decode cX4_becomesStuck 19 = .ok (.aload_n 0, 1) := by decide +kernel
theorem dX4_becomesStuck_20 : decode cX4_becomesStuck 20 = .ok (.getfield 21, 3) := by decide +kernel
theorem dX4_becomesStuck_23 : decode cX4_becomesStuck 23 = .ok (.iload 4, 2) := by decide +kernel
theorem dX4_becomesStuck_25 : decode cX4_becomesStuck 25 = .ok (.iconst 1, 1) := by decide +kernel
theorem dX4_becomesStuck_26 : decode cX4_becomesStuck 26 = .ok (.bastore, 1) := by decide +kernel
theorem dX4_becomesStuck_27 : decode cX4_becomesStuck 27 = .ok (.aload_n 0, 1) := by decide +kernel
theorem dX4_becomesStuck_28 : decode cX4_becomesStuck 28 = .ok (.getfield 9, 3) := by decide +kernel
theorem dX4_becomesStuck_31 : decode cX4_becomesStuck 31 = .ok (.iload 4, 2) := by decide +kernel
theorem dX4_becomesStuck_33 : decode cX4_becomesStuck 33 = .ok (.iload_n 3, 1) := by decide +kernel
theorem dX4_becomesStuck_34 : decode cX4_becomesStuck 34 = .ok (.iastore, 1) := by decide +kernel
theorem dX4_becomesStuck_35 : decode cX4_becomesStuck 35 = .ok (.iconst 1, 1) := by decide +kernel
theorem dX4_becomesStuck_36 : decode cX4_becomesStuck 36 = .ok (.ireturn, 1) := by decide +kernel
set_option maxRecDepth 20000 in
theorem ggX4_failsToWrite_X5_indexOf : GoodIn wsX4_failsToWrite wsX5_indexOf := goodIn_r _ [9] (by decide +kernel) (by decide +kernel)
set_option maxRecDepth 20000 in
theorem gX4_failsToWrite_X5_indexOf_n51 : GoodIn wsX4_failsToWrite (wsX5_indexOf) := ggX4_failsToWrite_X5_indexOf
set_option maxRecDepth 20000 in
theorem ggX4_failsToWrite_X4_conducted : GoodIn wsX4_failsToWrite wsX4_conducted := goodIn_r _ [14, 15, 1, 2, 4, 3, 16, 17, 18, 19, 7, 8, 9, 20, 21, 39, 40, 41, 27, 28, 29, 30, 31, 32, 33, 34, 35, 36, 37, 38] (by decide +kernel) (by decide +kernel)
set_option maxRecDepth 20000 in
theorem gX4_failsToWrite_X4_conducted : GoodIn wsX4_failsToWrite (wsV RX4 71 RX4 yX4_conducted wsX4_conducted) := goodIn_app (goodIn_of _ (by decide +kernel)) ggX4_failsToWrite_X4_conducted
set_option maxRecDepth 20000 in
theorem ggX4_failsToWrite_X4_givePulse : GoodIn wsX4_failsToWrite wsX4_givePulse := goodIn_r _ [25, 26, 1, 2, 16, 17, 18, 19, 27, 28, 29, 30, 31, 32, 33, 34, 35, 36, 37, 38] (by decide +kernel) (by decide +kernel)
set_option maxRecDepth 20000 in
theorem gX4_failsToWrite_X4_givePulse : GoodIn wsX4_failsToWrite (wsV RX4 78 RX4 yX4_givePulse wsX4_givePulse) := goodIn_app (goodIn_of _ (by decide +kernel)) ggX4_failsToWrite_X4_givePulse
theorem dX4_failsToWrite_0 : decode cX4_failsToWrite 0 = .ok (.iload_n 1, 1) := by decide +kernel
theorem dX4_failsToWrite_1 : decode cX4_failsToWrite 1 = .ok (.iload_n 2, 1) := by decide +kernel
theorem dX4_failsToWrite_2 : decode cX4_failsToWrite 2 = .ok (.invokestatic 51, 3) := by decide +kernel
theorem dX4_failsToWrite_5 : decode cX4_failsToWrite 5 = .ok (.istore 5, 2) := by decide +kernel
theorem dX4_failsToWrite_7 : decode cX4_failsToWrite 7 = .ok (.aload_n 0, 1) := by decide +kernel
theorem dX4_failsToWrite_8 : decode cX4_failsToWrite 8 = .ok (.getfield 21, 3) := by decide +kernel
theorem dX4_failsToWrite_11 : decode cX4_failsToWrite 11 = .ok (.iload 5, 2) := by decide +kernel
theorem dX4_failsToWrite_13 : decode cX4_failsToWrite 13 = .ok (.baload, 1) := by decide +kernel
theorem dX4_failsToWrite_14 : decode cX4_failsToWrite 14 = .ok (.ifCond .ne 30, 3) := by decide +kernel
theorem dX4_failsToWrite_17 : decode cX4_failsToWrite 17 = .ok (.aload_n 0, 1) := by decide +kernel
theorem dX4_failsToWrite_18 : decode cX4_failsToWrite 18 = .ok (.getfield 9, 3) := by decide +kernel
theorem dX4_failsToWrite_21 : decode cX4_failsToWrite 21 = .ok (.iload 5, 2) := by decide +kernel
theorem dX4_failsToWrite_23 : decode cX4_failsToWrite 23 = .ok (.aload_n 0, 1) := by decide +kernel
theorem dX4_failsToWrite_24 : decode cX4_failsToWrite 24 = .ok (.iload_n 1, 1) := by decide +kernel
theorem dX4_failsToWrite_25 : decode cX4_failsToWrite 25 = .ok (.iload_n 2, 1) := by decide +kernel
theorem dX4_failsToWrite_26 : decode cX4_failsToWrite 26 = .ok (.aload 4, 2) := by decide +kernel
theorem dX4_failsToWrite_28 : decode cX4_failsToWrite 28 = .ok (.invokevirtual 71, 3) := by decide +kernel
theorem dX4_failsToWrite_31 : decode cX4_failsToWrite 31 = .ok (.iastore, 1) := by decide +kernel
theorem dX4_failsToWrite_32 : decode cX4_failsToWrite 32 = .ok (.aload_n 0, 1) := by decide +kernel
theorem dX4_failsToWrite_33 : decode cX4_failsToWrite 33 = .ok (.getfield 18, 3) := by decide +kernel
theorem dX4_failsToWrite_36 : decode cX4_failsToWrite 36 = .ok (.iload 5, 2) := by decide +kernel
theorem dX4_failsToWrite_38 : decode cX4_failsToWrite 38 = .ok (.aload 4, 2) := by decide +kernel
theorem dX4_failsToWrite_40 : decode cX4_failsToWrite 40 = .ok (.getfield 60, 3) := by decide +kernel
theorem dX4_failsToWrite_43 : decode cX4_failsToWrite 43 = .ok (.iastore, 1) := by decide +kernel
theorem dX4_failsToWrite_44 : decode cX4_failsToWrite 44 = .ok (.iconst 0, 1) := by decide +kernel
theorem dX4_failsToWrite_45 : decode cX4_failsToWrite 45 = .ok (.istore 6, 2) := by decide +kernel
theorem dX4_failsToWrite_47 : decode cX4_failsToWrite 47 = .ok (.iload 6, 2) := by decide +kernel
theorem dX4_failsToWrite_49 : decode cX4_failsToWrite 49 = .ok (.bipush 16, 2) := by decide +kernel
theorem dX4_failsToWrite_51 : decode cX4_failsToWrite 51 = .ok (.if_icmp .ge 32, 3) := by decide +kernel
theorem dX4_failsToWrite_54 : decode cX4_failsToWrite 54 = .ok (.aload_n 0, 1) := by decide +kernel
theorem dX4_failsToWrite_55 : decode cX4_failsToWrite 55 = .ok (.getfield 9, 3) := by decide +kernel
theorem dX4_failsToWrite_58 : decode cX4_failsToWrite 58 = .ok (.iload 5, 2) := by decide +kernel
theorem dX4_failsToWrite_60 : decode cX4_failsToWrite 60 = .ok (.iaload, 1) := by decide +kernel
theorem dX4_failsToWrite_61 : decode cX4_failsToWrite 61 = .ok (.iload_n 3, 1) := by decide +kernel
theorem dX4_failsToWrite_62 : decode cX4_failsToWrite 62 = .ok (.if_icmp .eq 21, 3) := by decide +kernel
theorem dX4_failsToWrite_65 : decode cX4_failsToWrite 65 = .ok (.aload_n 0, 1) := by decide +kernel
theorem dX4_failsToWrite_66 : decode cX4_failsToWrite 66 = .ok (.iload 5, 2) := by decide +kernel
theorem dX4_failsToWrite_68 : decode cX4_failsToWrite 68 = .ok (.iload_n 3, 1) := by decide +kernel
theorem dX4_failsToWrite_69 : decode cX4_failsToWrite 69 = .ok (.aload 4, 2) := by decide +kernel
theorem dX4_failsToWrite_71 : decode cX4_failsToWrite 71 = .ok (.getfield 75, 3) := by decide +kernel
theorem dX4_failsToWrite_74 : decode cX4_failsToWrite 74 = .ok (.invokevirtual 78, 3) := by decide +kernel
theorem dX4_failsToWrite_77 : decode cX4_failsToWrite 77 = .ok (.iinc 6 1, 3) := by decide +kernel
theorem dX4_failsToWrite_80 : decode cX4_failsToWrite 80 = .ok (.goto (-33), 3) := by decide +kernel
theorem dX4_failsToWrite_83 : decode cX4_failsToWrite 83 = .ok (.aload_n 0, 1) := by decide +kernel
theorem dX4_failsToWrite_84 : decode cX4_failsToWrite 84 = .ok (.getfield 9, 3) := by decide +kernel
theorem dX4_failsToWrite_87 : decode cX4_failsToWrite 87 = .ok (.iload 5, 2) := by decide +kernel
theorem dX4_failsToWrite_89 : decode cX4_failsToWrite 89 = .ok (.iaload, 1) := by decide +kernel
theorem dX4_failsToWrite_90 : decode cX4_failsToWrite 90 = .ok (.iload_n 3, 1) := by decide +kernel
theorem dX4_failsToWrite_91 : decode cX4_failsToWrite 91 = .ok (.if_icmp .ne 5, 3) := by decide +kernel
theorem dX4_failsToWrite_94 : decode cX4_failsToWrite 94 = .ok (.iconst 0, 1) := by decide +kernel
theorem dX4_failsToWrite_95 : decode cX4_failsToWrite 95 = .ok (.ireturn, 1) := by decide +kernel
theorem dX4_failsToWrite_96 : decode cX4_failsToWrite 96 = .ok (.aload_n 0, 1) := by decide +kernel
theorem dX4_failsToWrite_97 : decode cX4_failsToWrite 97 = .ok (.getfield 25, 3) := by decide +kernel
theorem dX4_failsToWrite_100 : decode cX4_failsToWrite 100 = .ok (.iload 5, 2) := by decide +kernel
theorem dX4_failsToWrite_102 : decode cX4_failsToWrite 102 = .ok (.iconst 1, 1) := by decide +kernel
theorem dX4_failsToWrite_103 : decode cX4_failsToWrite 103 = .ok (.bastore, 1) := by decide +kernel
theorem dX4_failsToWrite_104 : decode cX4_failsToWrite 104 = .ok (.iconst 1, 1) := by decide +kernel
theorem dX4_failsToWrite_105 : decode cX4_failsToWrite 105 = .ok (.ireturn, 1) := by decide +kernel
theorem dX4_givePulse_0 : decode cX4_givePulse 0 = .ok (.aload_n 0, 1) := by decide +kernel
theorem dX4_givePulse_1 : decode cX4_givePulse 1 = .ok (.getfield 15, 3) := by decide +kernel
theorem dX4_givePulse_4 : decode cX4_givePulse 4 = .ok (.iload_n 1, 1) := by decide +kernel
theorem dX4_givePulse_5 : decode cX4_givePulse 5 = .ok (.dup2, 1) := by decide +kernel
theorem dX4_givePulse_6 : decode cX4_givePulse 6 = .ok (.iaload, 1) := by decide +kernel
theorem dX4_givePulse_7 : decode cX4_givePulse 7 = .ok (.iconst 1, 1) := by decide +kernel
theorem dX4_givePulse_8 : decode cX4_givePulse 8 = .ok (.iadd, 1) := by decide +kernel
theorem dX4_givePulse_9 : decode cX4_givePulse 9 = .ok (.iastore, 1) := by decide +kernel
theorem dX4_givePulse_10 : decode cX4_givePulse 10 = .ok (.aload_n 0, 1) := by decide +kernel
theorem dX4_givePulse_11 : decode cX4_givePulse 11 = .ok (.getfield 21, 3) := by decide +kernel
theorem dX4_givePulse_14 : decode cX4_givePulse 14 = .ok (.iload_n 1, 1) := by decide +kernel
theorem dX4_givePulse_15 : decode cX4_givePulse 15 = .ok (.baload, 1) := by decide +kernel
theorem dX4_givePulse_16 : decode cX4_givePulse 16 = .ok (.ifCond .eq 4, 3) := by decide +kernel
theorem dX4_givePulse_19 : decode cX4_givePulse 19 = .ok (.return_, 1) := by decide +kernel
theorem dX4_givePulse_20 : decode cX4_givePulse 20 = .ok (.aload_n 0, 1) := by decide +kernel
theorem dX4_givePulse_21 : decode cX4_givePulse 21 = .ok (.getfield 9, 3) := by decide +kernel
theorem dX4_givePulse_24 : decode cX4_givePulse 24 = .ok (.iload_n 1, 1) := by decide +kernel
theorem dX4_givePulse_25 : decode cX4_givePulse 25 = .ok (.aload_n 0, 1) := by decide +kernel
theorem dX4_givePulse_26 : decode cX4_givePulse 26 = .ok (.getfield 9, 3) := by decide +kernel
theorem dX4_givePulse_29 : decode cX4_givePulse 29 = .ok (.iload_n 1, 1) := by decide +kernel
theorem dX4_givePulse_30 : decode cX4_givePulse 30 = .ok (.iaload, 1) := by decide +kernel
theorem dX4_givePulse_31 : decode cX4_givePulse 31 = .ok (.iload_n 2, 1) := by decide +kernel
theorem dX4_givePulse_32 : decode cX4_givePulse 32 = .ok (.if_icmp .ge 14, 3) := by decide +kernel
theorem dX4_givePulse_35 : decode cX4_givePulse 35 = .ok (.aload_n 0, 1) := by decide +kernel
theorem dX4_givePulse_36 : decode cX4_givePulse 36 = .ok (.getfield 9, 3) := by decide +kernel
theorem dX4_givePulse_39 : decode cX4_givePulse 39 = .ok (.iload_n 1, 1) := by decide +kernel
theorem dX4_givePulse_40 : decode cX4_givePulse 40 = .ok (.iaload, 1) := by decide +kernel
theorem dX4_givePulse_41 : decode cX4_givePulse 41 = .ok (.iconst 1, 1) := by decide +kernel
theorem dX4_givePulse_42 : decode cX4_givePulse 42 = .ok (.iadd, 1) := by decide +kernel
theorem dX4_givePulse_43 : decode cX4_givePulse 43 = .ok (.goto 15, 3) := by decide +kernel
theorem dX4_givePulse_46 : decode cX4_givePulse 46 = .ok (.iconst 0, 1) := by decide +kernel
theorem dX4_givePulse_47 : decode cX4_givePulse 47 = .ok (.aload_n 0, 1) := by decide +kernel
theorem dX4_givePulse_48 : decode cX4_givePulse 48 = .ok (.getfield 9, 3) := by decide +kernel
theorem dX4_givePulse_51 : decode cX4_givePulse 51 = .ok (.iload_n 1, 1) := by decide +kernel
theorem dX4_givePulse_52 : decode cX4_givePulse 52 = .ok (.iaload, 1) := by decide +kernel
theorem dX4_givePulse_53 : decode cX4_givePulse 53 = .ok (.iconst 2, 1) := by decide +kernel
theorem dX4_givePulse_54 : decode cX4_givePulse 54 = .ok (.isub, 1) := by decide +kernel
theorem dX4_givePulse_55 : decode cX4_givePulse 55 = .ok (.invokestatic 66, 3) := by decide +kernel
theorem dX4_givePulse_58 : decode cX4_givePulse 58 = .ok (.iastore, 1) := by decide +kernel
theorem dX4_givePulse_59 : decode cX4_givePulse 59 = .ok (.aload_n 0, 1) := by decide +kernel
theorem dX4_givePulse_60 : decode cX4_givePulse 60 = .ok (.getfield 21, 3) := by decide +kernel
theorem dX4_givePulse_63 : decode cX4_givePulse 63 = .ok (.iload_n 1, 1) := by decide +kernel
theorem dX4_givePulse_64 : decode cX4_givePulse 64 = .ok (.aload_n 0, 1) := by decide +kernel
theorem dX4_givePulse_65 : decode cX4_givePulse 65 = .ok (.getfield 15, 3) := by decide +kernel
theorem dX4_givePulse_68 : decode cX4_givePulse 68 = .ok (.iload_n 1, 1) := by decide +kernel
theorem dX4_givePulse_69 : decode cX4_givePulse 69 = .ok (.iaload, 1) := by decide +kernel
theorem dX4_givePulse_70 : decode cX4_givePulse 70 = .ok (.iload_n 3, 1) := by decide +kernel
theorem dX4_givePulse_71 : decode cX4_givePulse 71 = .ok (.if_icmp .lt 7, 3) := by decide +kernel
theorem dX4_givePulse_74 : decode cX4_givePulse 74 = .ok (.iconst 1, 1) := by decide +kernel
theorem dX4_givePulse_75 : decode cX4_givePulse 75 = .ok (.goto 4, 3) := by decide +kernel
theorem dX4_givePulse_78 : decode cX4_givePulse 78 = .ok (.iconst 0, 1) := by decide +kernel
theorem dX4_givePulse_79 : decode cX4_givePulse 79 = .ok (.bastore, 1) := by decide +kernel
theorem dX4_givePulse_80 : decode cX4_givePulse 80 = .ok (.return_, 1) := by decide +kernel
set_option maxRecDepth 20000 in
theorem ggX4_isMisfit_X5_indexOf : GoodIn wsX4_isMisfit wsX5_indexOf := goodIn_r _ [5] (by decide +kernel) (by decide +kernel)
set_option maxRecDepth 20000 in
theorem gX4_isMisfit_X5_indexOf_n51 : GoodIn wsX4_isMisfit (wsX5_indexOf) := ggX4_isMisfit_X5_indexOf
theorem dX4_isMisfit_0 : decode cX4_isMisfit 0 = .ok (.iload_n 1, 1) := by decide +kernel
theorem dX4_isMisfit_1 : decode cX4_isMisfit 1 = .ok (.iload_n 2, 1) := by decide +kernel
theorem dX4_isMisfit_2 : decode cX4_isMisfit 2 = .ok (.invokestatic 51, 3) := by decide +kernel
theorem dX4_isMisfit_5 : decode cX4_isMisfit 5 = .ok (.istore 4, 2) := by decide +kernel
theorem dX4_isMisfit_7 : decode cX4_isMisfit 7 = .ok (.aload_n 0, 1) := by decide +kernel
theorem dX4_isMisfit_8 : decode cX4_isMisfit 8 = .ok (.getfield 25, 3) := by decide +kernel
theorem dX4_isMisfit_11 : decode cX4_isMisfit 11 = .ok (.iload 4, 2) := by decide +kernel
theorem dX4_isMisfit_13 : decode cX4_isMisfit 13 = .ok (.baload, 1) := by decide +kernel
theorem dX4_isMisfit_14 : decode cX4_isMisfit 14 = .ok (.ifCond .eq 18, 3) := by decide +kernel
theorem dX4_isMisfit_17 : decode cX4_isMisfit 17 = .ok (.aload_n 0, 1) := by decide +kernel
theorem dX4_isMisfit_18 : decode cX4_isMisfit 18 = .ok (.getfield 9, 3) := by decide +kernel
theorem dX4_isMisfit_21 : decode cX4_isMisfit 21 = .ok (.iload 4, 2) := by decide +kernel
theorem dX4_isMisfit_23 : decode cX4_isMisfit 23 = .ok (.iaload, 1) := by decide +kernel
theorem dX4_isMisfit_24 : decode cX4_isMisfit 24 = .ok (.iload_n 3, 1) := by decide +kernel
theorem dX4_isMisfit_25 : decode cX4_isMisfit 25 = .ok (.if_icmp .eq 7, 3) := by decide +kernel
theorem dX4_isMisfit_28 : decode cX4_isMisfit 28 = .ok (.iconst 1, 1) := by decide +kernel
theorem dX4_isMisfit_29 : decode cX4_isMisfit 29 = .ok (.goto 4, 3) := by decide +kernel
theorem dX4_isMisfit_32 : decode cX4_isMisfit 32 = .ok (.iconst 0, 1) := by decide +kernel
theorem dX4_isMisfit_33 : decode cX4_isMisfit 33 = .ok (.ireturn, 1) := by decide +kernel
set_option maxRecDepth 20000 in
theorem ggX4_read_X5_quotient : GoodIn wsX4_read wsX5_quotient := goodIn_r _ [14] (by decide +kernel) (by decide +kernel)
set_option maxRecDepth 20000 in
theorem gX4_read_X5_quotient_n63 : GoodIn wsX4_read (wsX5_quotient) := ggX4_read_X5_quotient
theorem dX4_read_0 : decode cX4_read 0 = .ok (.aload_n 0, 1) := by decide +kernel
theorem dX4_read_1 : decode cX4_read 1 = .ok (.getfield 38, 3) := by decide +kernel
theorem dX4_read_4 : decode cX4_read 4 = .ok (.ifCond .eq 7, 3) := by decide +kernel
theorem dX4_read_7 : decode cX4_read 7 = .ok (.iload_n 2, 1) := by decide +kernel
theorem dX4_read_8 : decode cX4_read 8 = .ok (.goto 15, 3) := by decide +kernel
theorem dX4_read_11 : decode cX4_read 11 = .ok (.iconst 0, 1) := by decide +kernel
theorem dX4_read_12 : decode cX4_read 12 = .ok (.iload_n 2, 1) := by decide +kernel
theorem dX4_read_13 : decode cX4_read 13 = .ok (.aload_n 0, 1) := by decide +kernel
theorem dX4_read_14 : decode cX4_read 14 = .ok (.getfield 28, 3) := by decide +kernel
theorem dX4_read_17 : decode cX4_read 17 = .ok (.iload_n 1, 1) := by decide +kernel
theorem dX4_read_18 : decode cX4_read 18 = .ok (.iaload, 1) := by decide +kernel
theorem dX4_read_19 : decode cX4_read 19 = .ok (.iadd, 1) := by decide +kernel
theorem dX4_read_20 : decode cX4_read 20 = .ok (.invokestatic 66, 3) := by decide +kernel
theorem dX4_read_23 : decode cX4_read 23 = .ok (.istore_n 3, 1) := by decide +kernel
theorem dX4_read_24 : decode cX4_read 24 = .ok (.aload_n 0, 1) := by decide +kernel
theorem dX4_read_25 : decode cX4_read 25 = .ok (.getfield 35, 3) := by decide +kernel
theorem dX4_read_28 : decode cX4_read 28 = .ok (.iload_n 3, 1) := by decide +kernel
theorem dX4_read_29 : decode cX4_read 29 = .ok (.aload_n 0, 1) := by decide +kernel
theorem dX4_read_30 : decode cX4_read 30 = .ok (.getfield 31, 3) := by decide +kernel
theorem dX4_read_33 : decode cX4_read 33 = .ok (.invokestatic 63, 3) := by decide +kernel
theorem dX4_read_36 : decode cX4_read 36 = .ok (.invokestatic 82, 3) := by decide +kernel
theorem dX4_read_39 : decode cX4_read 39 = .ok (.aload_n 0, 1) := by decide +kernel
theorem dX4_read_40 : decode cX4_read 40 = .ok (.getfield 31, 3) := by decide +kernel
theorem dX4_read_43 : decode cX4_read 43 = .ok (.imul, 1) := by decide +kernel
theorem dX4_read_44 : decode cX4_read 44 = .ok (.ireturn, 1) := by decide +kernel
set_option maxRecDepth 20000 in
theorem ggX4_leastError_X4_read : GoodIn wsX4_leastError wsX4_read := goodIn_r _ [9, 10, 11, 12, 13, 3, 14, 15, 16, 1, 2, 4, 17, 18, 19, 20, 21, 22, 23, 24, 25, 26, 27, 28, 29, 30, 31] (by decide +kernel) (by decide +kernel)
set_option maxRecDepth 20000 in
theorem gX4_leastError_X4_read : GoodIn wsX4_leastError (wsV RX4 85 RX4 yX4_read wsX4_read) := goodIn_app (goodIn_of _ (by decide +kernel)) ggX4_leastError_X4_read
theorem dX4_leastError_0 : decode cX4_leastError 0 = .ok (.aload_n 0, 1) := by decide +kernel
theorem dX4_leastError_1 : decode cX4_leastError 1 = .ok (.iload_n 1, 1) := by decide +kernel
theorem dX4_leastError_2 : decode cX4_leastError 2 = .ok (.iconst 0, 1) := by decide +kernel
theorem dX4_leastError_3 : decode cX4_leastError 3 = .ok (.invokevirtual 85, 3) := by decide +kernel
theorem dX4_leastError_6 : decode cX4_leastError 6 = .ok (.istore_n 3, 1) := by decide +kernel
theorem dX4_leastError_7 : decode cX4_leastError 7 = .ok (.iconst 1, 1) := by decide +kernel
theorem dX4_leastError_8 : decode cX4_leastError 8 = .ok (.istore 4, 2) := by decide +kernel
theorem dX4_leastError_10 : decode cX4_leastError 10 = .ok (.iload 4, 2) := by decide +kernel
theorem dX4_leastError_12 : decode cX4_leastError 12 = .ok (.iload_n 2, 1) := by decide +kernel
theorem dX4_leastError_13 : decode cX4_leastError 13 = .ok (.if_icmp .gt 24, 3) := by decide +kernel
theorem dX4_leastError_16 : decode cX4_leastError 16 = .ok (.iload_n 3, 1) := by decide +kernel
theorem dX4_leastError_17 : decode cX4_leastError 17 = .ok (.aload_n 0, 1) := by decide +kernel
theorem dX4_leastError_18 : decode cX4_leastError 18 = .ok (.iload_n 1, 1) := by decide +kernel
theorem dX4_leastError_19 : decode cX4_leastError 19 = .ok (.iload 4, 2) := by decide +kernel
theorem dX4_leastError_21 : decode cX4_leastError 21 = .ok (.invokevirtual 85, 3) := by decide +kernel
theorem dX4_leastError_24 : decode cX4_leastError 24 = .ok (.iload 4, 2) := by decide +kernel
theorem dX4_leastError_26 : decode cX4_leastError 26 = .ok (.isub, 1) := by decide +kernel
theorem dX4_leastError_27 : decode cX4_leastError 27 = .ok (.invokestatic 82, 3) := by decide +kernel
theorem dX4_leastError_30 : decode cX4_leastError 30 = .ok (.istore_n 3, 1) := by decide +kernel
theorem dX4_leastError_31 : decode cX4_leastError 31 = .ok (.iinc 4 1, 3) := by decide +kernel
theorem dX4_leastError_34 : decode cX4_leastError 34 = .ok (.goto (-24), 3) := by decide +kernel
theorem dX4_leastError_37 : decode cX4_leastError 37 = .ok (.iload_n 3, 1) := by decide +kernel
theorem dX4_leastError_38 : decode cX4_leastError 38 = .ok (.ireturn, 1) := by decide +kernel
set_option maxRecDepth 20000 in
theorem ggX4_greatestError_X4_read : GoodIn wsX4_greatestError wsX4_read := goodIn_r _ [9, 10, 11, 1, 2, 3, 4, 12, 13, 14, 15, 16, 17, 18, 19, 20, 21, 22, 23, 24, 25, 26, 27, 28, 29, 30, 31] (by decide +kernel) (by decide +kernel)
set_option maxRecDepth 20000 in
theorem gX4_greatestError_X4_read : GoodIn wsX4_greatestError (wsV RX4 85 RX4 yX4_read wsX4_read) := goodIn_app (goodIn_of _ (by decide +kernel)) ggX4_greatestError_X4_read
theorem dX4_greatestError_0 : decode cX4_greatestError 0 = .ok (.aload_n 0, 1) := by decide +kernel
theorem dX4_greatestError_1 : decode cX4_greatestError 1 = .ok (.iload_n 1, 1) := by decide +kernel
theorem dX4_greatestError_2 : decode cX4_greatestError 2 = .ok (.iconst 0, 1) := by decide +kernel
theorem dX4_greatestError_3 : decode cX4_greatestError 3 = .ok (.invokevirtual 85, 3) := by decide +kernel
theorem dX4_greatestError_6 : decode cX4_greatestError 6 = .ok (.istore_n 3, 1) := by decide +kernel
theorem dX4_greatestError_7 : decode cX4_greatestError 7 = .ok (.iconst 1, 1) := by decide +kernel
theorem dX4_greatestError_8 : decode cX4_greatestError 8 = .ok (.istore 4, 2) := by decide +kernel
theorem dX4_greatestError_10 : decode cX4_greatestError 10 = .ok (.iload 4, 2) := by decide +kernel
theorem dX4_greatestError_12 : decode cX4_greatestError 12 = .ok (.iload_n 2, 1) := by decide +kernel
theorem dX4_greatestError_13 : decode cX4_greatestError 13 = .ok (.if_icmp .gt 24, 3) := by decide +kernel
theorem dX4_greatestError_16 : decode cX4_greatestError 16 = .ok (.iload_n 3, 1) := by decide +kernel
theorem dX4_greatestError_17 : decode cX4_greatestError 17 = .ok (.aload_n 0, 1) := by decide +kernel
theorem dX4_greatestError_18 : decode cX4_greatestError 18 = .ok (.iload_n 1, 1) := by decide +kernel
theorem dX4_greatestError_19 : decode cX4_greatestError 19 = .ok (.iload 4, 2) := by decide +kernel
theorem dX4_greatestError_21 : decode cX4_greatestError 21 = .ok (.invokevirtual 85, 3) := by decide +kernel
theorem dX4_greatestError_24 : decode cX4_greatestError 24 = .ok (.iload 4, 2) := by decide +kernel
theorem dX4_greatestError_26 : decode cX4_greatestError 26 = .ok (.isub, 1) := by decide +kernel
theorem dX4_greatestError_27 : decode cX4_greatestError 27 = .ok (.invokestatic 66, 3) := by decide +kernel
theorem dX4_greatestError_30 : decode cX4_greatestError 30 = .ok (.istore_n 3, 1) := by decide +kernel
theorem dX4_greatestError_31 : decode cX4_greatestError 31 = .ok (.iinc 4 1, 3) := by decide +kernel
theorem dX4_greatestError_34 : decode cX4_greatestError 34 = .ok (.goto (-24), 3) := by decide +kernel
theorem dX4_greatestError_37 : decode cX4_greatestError 37 = .ok (.iload_n 3, 1) := by decide +kernel
theorem dX4_greatestError_38 : decode cX4_greatestError 38 = .ok (.ireturn, 1) := by decide +kernel
set_option maxRecDepth 20000 in
theorem ggX5_init_X3_init : GoodIn wsX5_init wsX3_init := goodIn_r _ [24, 25, 2, 3, 26, 27, 28, 58, 59, 60] (by decide +kernel) (by decide +kernel)
set_option maxRecDepth 20000 in
theorem gX5_init_X3_init_n11 : GoodIn wsX5_init (wsX3_init) := ggX5_init_X3_init
set_option maxRecDepth 20000 in
theorem ggX5_init_X2_init : GoodIn wsX5_init wsX2_init := goodIn_r _ [30, 31, 2, 3, 32, 33, 34, 67, 68] (by decide +kernel) (by decide +kernel)
set_option maxRecDepth 20000 in
theorem gX5_init_X2_init_n30 : GoodIn wsX5_init (wsX2_init) := ggX5_init_X2_init
set_option maxRecDepth 20000 in
theorem ggX5_init_X1_init : GoodIn wsX5_init wsX1_init := goodIn_r _ [36, 37, 2, 3, 32, 38, 39, 40, 69, 70, 71] (by decide +kernel) (by decide +kernel)
set_option maxRecDepth 20000 in
theorem gX5_init_X1_init_n37 : GoodIn wsX5_init (wsX1_init) := ggX5_init_X1_init
set_option maxRecDepth 20000 in
theorem ggX5_init_X4_init : GoodIn wsX5_init wsX4_init := goodIn_r _ [43, 44, 2, 3, 32, 45, 46, 47, 48, 49, 50, 51, 52, 53, 54, 55, 56, 57, 72, 73, 74, 75, 76, 77, 78, 79, 80, 81, 82, 83] (by decide +kernel) (by decide +kernel)
set_option maxRecDepth 20000 in
theorem gX5_init_X4_init : GoodIn wsX5_init (wsX4_init) := ggX5_init_X4_init
theorem dX5_init_0 : decode cX5_init 0 = .ok (.aload_n 0, 1) := by decide +kernel
theorem dX5_init_1 : decode cX5_init 1 = .ok (.invokespecial 3, 3) := by decide +kernel
theorem dX5_init_4 : decode cX5_init 4 = .ok (.aload_n 0, 1) := by decide +kernel
theorem dX5_init_5 : decode cX5_init 5 = .ok (.new 9, 3) := by decide +kernel
theorem dX5_init_8 : decode cX5_init 8 = .ok (.dup, 1) := by decide +kernel
theorem dX5_init_9 : decode cX5_init 9 = .ok (.invokespecial 11, 3) := by decide +kernel
theorem dX5_init_12 : decode cX5_init 12 = .ok (.putfield 12, 3) := by decide +kernel
theorem dX5_init_15 : decode cX5_init 15 = .ok (.aload_n 0, 1) := by decide +kernel
theorem dX5_init_16 : decode cX5_init 16 = .ok (.bipush 6, 2) := by decide +kernel
theorem dX5_init_18 : decode cX5_init 18 = .ok (.anewarray 16, 3) := by decide +kernel
theorem dX5_init_21 : decode cX5_init 21 = .ok (.putfield 18, 3) := by decide +kernel
theorem dX5_init_24 : decode cX5_init 24 = .ok (.aload_n 0, 1) := by decide +kernel
theorem dX5_init_25 : decode cX5_init 25 = .ok (.bipush 6, 2) := by decide +kernel
theorem dX5_init_27 : decode cX5_init 27 = .ok (.anewarray 22, 3) := by decide +kernel
theorem dX5_init_30 : decode cX5_init 30 = .ok (.putfield 24, 3) := by decide +kernel
theorem dX5_init_33 : decode cX5_init 33 = .ok (.aload_n 0, 1) := by decide +kernel
theorem dX5_init_34 : decode cX5_init 34 = .ok (.new 28, 3) := by decide +kernel
theorem dX5_init_37 : decode cX5_init 37 = .ok (.dup, 1) := by decide +kernel
theorem dX5_init_38 : decode cX5_init 38 = .ok (.invokespecial 30, 3) := by decide +kernel
theorem dX5_init_41 : decode cX5_init 41 = .ok (.putfield 31, 3) := by decide +kernel
theorem dX5_init_44 : decode cX5_init 44 = .ok (.aload_n 0, 1) := by decide +kernel
theorem dX5_init_45 : decode cX5_init 45 = .ok (.new 35, 3) := by decide +kernel
theorem dX5_init_48 : decode cX5_init 48 = .ok (.dup, 1) := by decide +kernel
theorem dX5_init_49 : decode cX5_init 49 = .ok (.invokespecial 37, 3) := by decide +kernel
theorem dX5_init_52 : decode cX5_init 52 = .ok (.putfield 38, 3) := by decide +kernel
theorem dX5_init_55 : decode cX5_init 55 = .ok (.aload_n 0, 1) := by decide +kernel
theorem dX5_init_56 : decode cX5_init 56 = .ok (.iconst 0, 1) := by decide +kernel
theorem dX5_init_57 : decode cX5_init 57 = .ok (.putfield 42, 3) := by decide +kernel
theorem dX5_init_60 : decode cX5_init 60 = .ok (.iconst 0, 1) := by decide +kernel
theorem dX5_init_61 : decode cX5_init 61 = .ok (.istore_n 1, 1) := by decide +kernel
theorem dX5_init_62 : decode cX5_init 62 = .ok (.iload_n 1, 1) := by decide +kernel
theorem dX5_init_63 : decode cX5_init 63 = .ok (.bipush 6, 2) := by decide +kernel
theorem dX5_init_65 : decode cX5_init 65 = .ok (.if_icmp .ge 23, 3) := by decide +kernel
theorem dX5_init_68 : decode cX5_init 68 = .ok (.aload_n 0, 1) := by decide +kernel
theorem dX5_init_69 : decode cX5_init 69 = .ok (.getfield 18, 3) := by decide +kernel
theorem dX5_init_72 : decode cX5_init 72 = .ok (.iload_n 1, 1) := by decide +kernel
theorem dX5_init_73 : decode cX5_init 73 = .ok (.new 16, 3) := by decide +kernel
theorem dX5_init_76 : decode cX5_init 76 = .ok (.dup, 1) := by decide +kernel
theorem dX5_init_77 : decode cX5_init 77 = .ok (.iload_n 1, 1) := by decide +kernel
theorem dX5_init_78 : decode cX5_init 78 = .ok (.invokespecial 46, 3) := by decide +kernel
theorem dX5_init_81 : decode cX5_init 81 = .ok (.aastore, 1) := by decide +kernel
theorem dX5_init_82 : decode cX5_init 82 = .ok (.iinc 1 1, 3) := by decide +kernel
theorem dX5_init_85 : decode cX5_init 85 = .ok (.goto (-23), 3) := by decide +kernel
theorem dX5_init_88 : decode cX5_init 88 = .ok (.return_, 1) := by decide +kernel
set_option maxRecDepth 20000 in
theorem ggX5_layer_X5_checkArgument : GoodIn wsX5_layer wsX5_checkArgument := goodIn_ca (goodIn_r _ [11, 12, 13] (by decide +kernel) (by decide +kernel)) (goodIn_sub (fun _ h => List.mem_cons_of_mem _ (List.mem_append_right _ h)) (by decide +kernel))
set_option maxRecDepth 20000 in
theorem gX5_layer_X5_checkArgument : GoodIn wsX5_layer (va_wsS RX5 49 yX5_checkArgument wsX5_checkArgument) := goodIn_app (goodIn_of _ (by decide +kernel)) ggX5_layer_X5_checkArgument
set_option maxRecDepth 20000 in
theorem ggX5_layer_X0_init : GoodIn wsX5_layer wsX0_init := goodIn_r _ [16, 17, 18, 19, 20, 21, 22, 23, 24, 25, 26, 27, 28, 35, 36, 37, 38, 39, 40, 41, 42] (by decide +kernel) (by decide +kernel)
set_option maxRecDepth 20000 in
theorem gX5_layer_X0_init : GoodIn wsX5_layer (wsX0_init) := ggX5_layer_X0_init
theorem dX5_layer_0 : decode cX5_layer 0 = .ok (.iload_n 1, 1) := by decide +kernel
theorem dX5_layer_1 : decode cX5_layer 1 = .ok (.iconst 1, 1) := by decide +kernel
theorem dX5_layer_2 : decode cX5_layer 2 = .ok (.bipush 8, 2) := by decide +kernel
theorem dX5_layer_4 : decode cX5_layer 4 = .ok (.invokestatic 49, 3) := by decide +kernel
theorem dX5_layer_7 : decode cX5_layer 7 = .ok (.iload_n 2, 1) := by decide +kernel
theorem dX5_layer_8 : decode cX5_layer 8 = .ok (.iconst 1, 1) := by decide +kernel
theorem dX5_layer_9 : decode cX5_layer 9 = .ok (.iconst 4, 1) := by decide +kernel
theorem dX5_layer_10 : decode cX5_layer 10 = .ok (.invokestatic 49, 3) := by decide +kernel
theorem dX5_layer_13 : decode cX5_layer 13 = .ok (.aload_n 0, 1) := by decide +kernel
theorem dX5_layer_14 : decode cX5_layer 14 = .ok (.getfield 42, 3) := by decide +kernel
theorem dX5_layer_17 : decode cX5_layer 17 = .ok (.bipush 6, 2) := by decide +kernel
theorem dX5_layer_19 : decode cX5_layer 19 = .ok (.if_icmp .lt 13, 3) := by decide +kernel
theorem dX5_layer_22 : decode cX5_layer 22 = .ok (.new 53, 3) := by decide +kernel
theorem dX5_layer_25 : decode cX5_layer 25 = .ok (.dup, 1) := by decide +kernel
theorem dX5_layer_26 : decode cX5_layer 26 = .ok (.ldc 55, 2) := by decide +kernel
theorem dX5_layer_28 : decode cX5_layer 28 = .ok (.invokespecial 57, 3) := by decide +kernel
theorem dX5_layer_31 : decode cX5_layer 31 = .ok (.athrow, 1) := by decide +kernel
theorem dX5_layer_32 : decode cX5_layer 32 = .ok (.aload_n 0, 1) := by decide +kernel
theorem dX5_layer_33 : decode cX5_layer 33 = .ok (.getfield 24, 3) := by decide +kernel
theorem dX5_layer_36 : decode cX5_layer 36 = .ok (.aload_n 0, 1) := by decide +kernel
theorem dX5_layer_37 : decode cX5_layer 37 = .ok (.getfield 42, 3) := by decide +kernel
theorem dX5_layer_40 : decode cX5_layer 40 = .ok (.new 22, 3) := by decide +kernel
theorem dX5_layer_43 : decode cX5_layer 43 = .ok (.dup, 1) := by decide +kernel
theorem dX5_layer_44 : decode cX5_layer 44 = .ok (.aload_n 0, 1) := by decide +kernel
theorem dX5_layer_45 : decode cX5_layer 45 = .ok (.getfield 42, 3) := by decide +kernel
theorem dX5_layer_48 : decode cX5_layer 48 = .ok (.iload_n 1, 1) := by decide +kernel
theorem dX5_layer_49 : decode cX5_layer 49 = .ok (.iload_n 2, 1) := by decide +kernel
theorem dX5_layer_50 : decode cX5_layer 50 = .ok (.invokespecial 60, 3) := by decide +kernel
theorem dX5_layer_53 : decode cX5_layer 53 = .ok (.aastore, 1) := by decide +kernel
theorem dX5_layer_54 : decode cX5_layer 54 = .ok (.aload_n 0, 1) := by decide +kernel
theorem dX5_layer_55 : decode cX5_layer 55 = .ok (.dup, 1) := by decide +kernel
theorem dX5_layer_56 : decode cX5_layer 56 = .ok (.getfield 42, 3) := by decide +kernel
theorem dX5_layer_59 : decode cX5_layer 59 = .ok (.iconst 1, 1) := by decide +kernel
theorem dX5_layer_60 : decode cX5_layer 60 = .ok (.iadd, 1) := by decide +kernel
theorem dX5_layer_61 : decode cX5_layer 61 = .ok (.putfield 42, 3) := by decide +kernel
theorem dX5_layer_64 : decode cX5_layer 64 = .ok (.aload_n 0, 1) := by decide +kernel
theorem dX5_layer_65 : decode cX5_layer 65 = .ok (.getfield 42, 3) := by decide +kernel
theorem dX5_layer_68 : decode cX5_layer 68 = .ok (.iconst 1, 1) := by decide +kernel
theorem dX5_layer_69 : decode cX5_layer 69 = .ok (.isub, 1) := by decide +kernel
theorem dX5_layer_70 : decode cX5_layer 70 = .ok (.ireturn, 1) := by decide +kernel
set_option maxRecDepth 20000 in
theorem ggX5_weight_X5_layerAt : GoodIn wsX5_weight wsX5_layerAt := goodIn_ca (goodIn_r _ [7, 8, 9, 10, 37, 38, 39, 40, 41, 42] (by decide +kernel) (by decide +kernel)) (goodIn_sub (fun _ h => List.mem_cons_of_mem _ (List.mem_append_left _ (List.mem_append_right _ h))) (by decide +kernel))
set_option maxRecDepth 20000 in
theorem gX5_weight_X5_layerAt : GoodIn wsX5_weight (wsV RX5 62 RX5 yX5_layerAt wsX5_layerAt) := goodIn_app (goodIn_of _ (by decide +kernel)) ggX5_weight_X5_layerAt
set_option maxRecDepth 20000 in
theorem ggX5_weight_X5_checkIndex : GoodIn wsX5_weight wsX5_checkIndex := goodIn_ca (goodIn_r _ [13, 8, 9] (by decide +kernel) (by decide +kernel)) (goodIn_sub (fun _ h => List.mem_cons_of_mem _ (List.mem_append_left _ (List.mem_append_right _ h))) (by decide +kernel))
set_option maxRecDepth 20000 in
theorem gX5_weight_X5_checkIndex : GoodIn wsX5_weight (va_wsS RX5 69 yX5_checkIndex wsX5_checkIndex) := goodIn_app (goodIn_of _ (by decide +kernel)) ggX5_weight_X5_checkIndex
set_option maxRecDepth 20000 in
theorem ggX5_weight_X5_checkArgument : GoodIn wsX5_weight wsX5_checkArgument := goodIn_ca (goodIn_r _ [16, 17, 18] (by decide +kernel) (by decide +kernel)) (goodIn_sub (fun _ h => List.mem_cons_of_mem _ (List.mem_append_right _ h)) (by decide +kernel))
set_option maxRecDepth 20000 in
theorem gX5_weight_X5_checkArgument : GoodIn wsX5_weight (va_wsS RX5 49 yX5_checkArgument wsX5_checkArgument) := goodIn_app (goodIn_of _ (by decide +kernel)) ggX5_weight_X5_checkArgument
set_option maxRecDepth 20000 in
theorem ggX5_weight_X0_weightOf : GoodIn wsX5_weight wsX0_weightOf := goodIn_r _ [23, 24, 29, 30, 31, 32, 33, 34, 35, 36] (by decide +kernel) (by decide +kernel)
set_option maxRecDepth 20000 in
theorem gX5_weight_X0_weightOf : GoodIn wsX5_weight (wsV RX5 76 RX0 yX0_weightOf wsX0_weightOf) := goodIn_app (goodIn_of _ (by decide +kernel)) ggX5_weight_X0_weightOf
set_option maxRecDepth 20000 in
theorem ggX5_weight_X0_tellWeight : GoodIn wsX5_weight wsX0_tellWeight := goodIn_r _ [28, 24, 29, 30, 31, 32, 33, 34, 35, 36] (by decide +kernel) (by decide +kernel)
set_option maxRecDepth 20000 in
theorem gX5_weight_X0_tellWeight : GoodIn wsX5_weight (wsV RX5 80 RX0 yX0_tellWeight wsX0_tellWeight) := goodIn_app (goodIn_of _ (by decide +kernel)) ggX5_weight_X0_tellWeight
theorem dX5_weight_0 : decode cX5_weight 0 = .ok (.aload_n 0, 1) := by decide +kernel
theorem dX5_weight_1 : decode cX5_weight 1 = .ok (.iload_n 1, 1) := by decide +kernel
theorem dX5_weight_2 : decode cX5_weight 2 = .ok (.invokevirtual 62, 3) := by decide +kernel
theorem dX5_weight_5 : decode cX5_weight 5 = .ok (.astore 5, 2) := by decide +kernel
theorem dX5_weight_7 : decode cX5_weight 7 = .ok (.iload_n 2, 1) := by decide +kernel
theorem dX5_weight_8 : decode cX5_weight 8 = .ok (.aload 5, 2) := by decide +kernel
theorem dX5_weight_10 : decode cX5_weight 10 = .ok (.getfield 66, 3) := by decide +kernel
theorem dX5_weight_13 : decode cX5_weight 13 = .ok (.invokestatic 69, 3) := by decide +kernel
theorem dX5_weight_16 : decode cX5_weight 16 = .ok (.iload_n 3, 1) := by decide +kernel
theorem dX5_weight_17 : decode cX5_weight 17 = .ok (.aload 5, 2) := by decide +kernel
theorem dX5_weight_19 : decode cX5_weight 19 = .ok (.getfield 73, 3) := by decide +kernel
theorem dX5_weight_22 : decode cX5_weight 22 = .ok (.invokestatic 69, 3) := by decide +kernel
theorem dX5_weight_25 : decode cX5_weight 25 = .ok (.iload 4, 2) := by decide +kernel
theorem dX5_weight_27 : decode cX5_weight 27 = .ok (.sipush (-255), 3) := by decide +kernel
theorem dX5_weight_30 : decode cX5_weight 30 = .ok (.sipush 255, 3) := by decide +kernel
theorem dX5_weight_33 : decode cX5_weight 33 = .ok (.invokestatic 49, 3) := by decide +kernel
theorem dX5_weight_36 : decode cX5_weight 36 = .ok (.aload 5, 2) := by decide +kernel
theorem dX5_weight_38 : decode cX5_weight 38 = .ok (.iload_n 2, 1) := by decide +kernel
theorem dX5_weight_39 : decode cX5_weight 39 = .ok (.iload_n 3, 1) := by decide +kernel
theorem dX5_weight_40 : decode cX5_weight 40 = .ok (.invokevirtual 76, 3) := by decide +kernel
theorem dX5_weight_43 : decode cX5_weight 43 = .ok (.istore 6, 2) := by decide +kernel
theorem dX5_weight_45 : decode cX5_weight 45 = .ok (.aload 5, 2) := by decide +kernel
theorem dX5_weight_47 : decode cX5_weight 47 = .ok (.iload_n 2, 1) := by decide +kernel
theorem dX5_weight_48 : decode cX5_weight 48 = .ok (.iload_n 3, 1) := by decide +kernel
theorem dX5_weight_49 : decode cX5_weight 49 = .ok (.iload 4, 2) := by decide +kernel
theorem dX5_weight_51 : decode cX5_weight 51 = .ok (.invokevirtual 80, 3) := by decide +kernel
theorem dX5_weight_54 : decode cX5_weight 54 = .ok (.iload 6, 2) := by decide +kernel
theorem dX5_weight_56 : decode cX5_weight 56 = .ok (.ireturn, 1) := by decide +kernel
set_option maxRecDepth 20000 in
theorem ggX5_shift_X5_layerAt : GoodIn wsX5_shift wsX5_layerAt := goodIn_ca (goodIn_r _ [6, 7, 8, 9, 23, 24, 25, 26, 27, 28] (by decide +kernel) (by decide +kernel)) (goodIn_sub (fun _ h => List.mem_cons_of_mem _ (List.mem_append_left _ (List.mem_append_right _ h))) (by decide +kernel))
set_option maxRecDepth 20000 in
theorem gX5_shift_X5_layerAt : GoodIn wsX5_shift (wsV RX5 62 RX5 yX5_layerAt wsX5_layerAt) := goodIn_app (goodIn_of _ (by decide +kernel)) ggX5_shift_X5_layerAt
set_option maxRecDepth 20000 in
theorem ggX5_shift_X5_checkArgument : GoodIn wsX5_shift wsX5_checkArgument := goodIn_ca (goodIn_r _ [12, 13, 14] (by decide +kernel) (by decide +kernel)) (goodIn_sub (fun _ h => List.mem_cons_of_mem _ (List.mem_append_right _ h)) (by decide +kernel))
set_option maxRecDepth 20000 in
theorem gX5_shift_X5_checkArgument : GoodIn wsX5_shift (va_wsS RX5 49 yX5_checkArgument wsX5_checkArgument) := goodIn_app (goodIn_of _ (by decide +kernel)) ggX5_shift_X5_checkArgument
theorem dX5_shift_0 : decode cX5_shift 0 = .ok (.aload_n 0, 1) := by decide +kernel
theorem dX5_shift_1 : decode cX5_shift 1 = .ok (.iload_n 1, 1) := by decide +kernel
theorem dX5_shift_2 : decode cX5_shift 2 = .ok (.invokevirtual 62, 3) := by decide +kernel
theorem dX5_shift_5 : decode cX5_shift 5 = .ok (.astore_n 3, 1) := by decide +kernel
theorem dX5_shift_6 : decode cX5_shift 6 = .ok (.iload_n 2, 1) := by decide +kernel
theorem dX5_shift_7 : decode cX5_shift 7 = .ok (.iconst 0, 1) := by decide +kernel
theorem dX5_shift_8 : decode cX5_shift 8 = .ok (.bipush 20, 2) := by decide +kernel
theorem dX5_shift_10 : decode cX5_shift 10 = .ok (.invokestatic 49, 3) := by decide +kernel
theorem dX5_shift_13 : decode cX5_shift 13 = .ok (.aload_n 3, 1) := by decide +kernel
theorem dX5_shift_14 : decode cX5_shift 14 = .ok (.getfield 83, 3) := by decide +kernel
theorem dX5_shift_17 : decode cX5_shift 17 = .ok (.istore 4, 2) := by decide +kernel
theorem dX5_shift_19 : decode cX5_shift 19 = .ok (.aload_n 3, 1) := by decide +kernel
theorem dX5_shift_20 : decode cX5_shift 20 = .ok (.iload_n 2, 1) := by decide +kernel
theorem dX5_shift_21 : decode cX5_shift 21 = .ok (.putfield 83, 3) := by decide +kernel
theorem dX5_shift_24 : decode cX5_shift 24 = .ok (.iload 4, 2) := by decide +kernel
theorem dX5_shift_26 : decode cX5_shift 26 = .ok (.ireturn, 1) := by decide +kernel
set_option maxRecDepth 20000 in
theorem ggX5_next_X5_layerAt : GoodIn wsX5_next wsX5_layerAt := goodIn_ca (goodIn_r _ [9, 10, 11, 12, 29, 30, 31, 32, 33, 34] (by decide +kernel) (by decide +kernel)) (goodIn_sub (fun _ h => List.mem_cons_of_mem _ (List.mem_append_right _ h)) (by decide +kernel))
set_option maxRecDepth 20000 in
theorem gX5_next_X5_layerAt : GoodIn wsX5_next (wsV RX5 62 RX5 yX5_layerAt wsX5_layerAt) := goodIn_app (goodIn_of _ (by decide +kernel)) ggX5_next_X5_layerAt
set_option maxRecDepth 20000 in
theorem ggX5_next_X0_canGoOnTo : GoodIn wsX5_next wsX0_canGoOnTo := goodIn_r _ [17, 18, 19, 20, 21, 22, 23, 24, 25, 26, 27, 28] (by decide +kernel) (by decide +kernel)
set_option maxRecDepth 20000 in
theorem gX5_next_X0_canGoOnTo : GoodIn wsX5_next (wsV RX5 86 RX0 yX0_canGoOnTo wsX0_canGoOnTo) := goodIn_app (goodIn_of _ (by decide +kernel)) ggX5_next_X0_canGoOnTo
theorem dX5_next_0 : decode cX5_next 0 = .ok (.aload_n 0, 1) := by decide +kernel
theorem dX5_next_1 : decode cX5_next 1 = .ok (.iload_n 1, 1) := by decide +kernel
theorem dX5_next_2 : decode cX5_next 2 = .ok (.invokevirtual 62, 3) := by decide +kernel
theorem dX5_next_5 : decode cX5_next 5 = .ok (.astore_n 3, 1) := by decide +kernel
theorem dX5_next_6 : decode cX5_next 6 = .ok (.iload_n 2, 1) := by decide +kernel
theorem dX5_next_7 : decode cX5_next 7 = .ok (.iconst (-1), 1) := by decide +kernel
theorem dX5_next_8 : decode cX5_next 8 = .ok (.if_icmp .ne 7, 3) := by decide +kernel
theorem dX5_next_11 : decode cX5_next 11 = .ok (.aconst_null, 1) := by decide +kernel
theorem dX5_next_12 : decode cX5_next 12 = .ok (.goto 8, 3) := by decide +kernel
theorem dX5_next_15 : decode cX5_next 15 = .ok (.aload_n 0, 1) := by decide +kernel
theorem dX5_next_16 : decode cX5_next 16 = .ok (.iload_n 2, 1) := by decide +kernel
theorem dX5_next_17 : decode cX5_next 17 = .ok (.invokevirtual 62, 3) := by decide +kernel
theorem dX5_next_20 : decode cX5_next 20 = .ok (.astore 4, 2) := by decide +kernel
theorem dX5_next_22 : decode cX5_next 22 = .ok (.aload 4, 2) := by decide +kernel
theorem dX5_next_24 : decode cX5_next 24 = .ok (.ifnull 22, 3) := by decide +kernel
theorem dX5_next_27 : decode cX5_next 27 = .ok (.aload_n 3, 1) := by decide +kernel
theorem dX5_next_28 : decode cX5_next 28 = .ok (.aload 4, 2) := by decide +kernel
theorem dX5_next_30 : decode cX5_next 30 = .ok (.invokevirtual 86, 3) := by decide +kernel
theorem dX5_next_33 : decode cX5_next 33 = .ok (.ifCond .ne 13, 3) := by decide +kernel
theorem dX5_next_36 : decode cX5_next 36 = .ok (.new 90, 3) := by decide +kernel
theorem dX5_next_39 : decode cX5_next 39 = .ok (.dup, 1) := by decide +kernel
theorem dX5_next_40 : decode cX5_next 40 = .ok (.ldc 92, 2) := by decide +kernel
theorem dX5_next_42 : decode cX5_next 42 = .ok (.invokespecial 94, 3) := by decide +kernel
theorem dX5_next_45 : decode cX5_next 45 = .ok (.athrow, 1) := by decide +kernel
theorem dX5_next_46 : decode cX5_next 46 = .ok (.aload_n 3, 1) := by decide +kernel
theorem dX5_next_47 : decode cX5_next 47 = .ok (.getfield 95, 3) := by decide +kernel
theorem dX5_next_50 : decode cX5_next 50 = .ok (.ifnonnull 7, 3) := by decide +kernel
theorem dX5_next_53 : decode cX5_next 53 = .ok (.iconst (-1), 1) := by decide +kernel
theorem dX5_next_54 : decode cX5_next 54 = .ok (.goto 10, 3) := by decide +kernel
theorem dX5_next_57 : decode cX5_next 57 = .ok (.aload_n 3, 1) := by decide +kernel
theorem dX5_next_58 : decode cX5_next 58 = .ok (.getfield 95, 3) := by decide +kernel
theorem dX5_next_61 : decode cX5_next 61 = .ok (.getfield 99, 3) := by decide +kernel
theorem dX5_next_64 : decode cX5_next 64 = .ok (.istore 5, 2) := by decide +kernel
theorem dX5_next_66 : decode cX5_next 66 = .ok (.aload_n 3, 1) := by decide +kernel
theorem dX5_next_67 : decode cX5_next 67 = .ok (.aload 4, 2) := by decide +kernel
theorem dX5_next_69 : decode cX5_next 69 = .ok (.putfield 95, 3) := by decide +kernel
theorem dX5_next_72 : decode cX5_next 72 = .ok (.iload 5, 2) := by decide +kernel
theorem dX5_next_74 : decode cX5_next 74 = .ok (.ireturn, 1) := by decide +kernel
set_option maxRecDepth 20000 in
theorem ggX5_place_X5_layerAt : GoodIn wsX5_place wsX5_layerAt := goodIn_ca (goodIn_r _ [11, 12, 13, 14, 137, 138, 139, 140, 141, 142] (by decide +kernel) (by decide +kernel)) (goodIn_sub (fun _ h => List.mem_cons_of_mem _ (List.mem_append_right _ h)) (by decide +kernel))
set_option maxRecDepth 20000 in
theorem gX5_place_X5_layerAt : GoodIn wsX5_place (wsV RX5 62 RX5 yX5_layerAt wsX5_layerAt) := goodIn_app (goodIn_of _ (by decide +kernel)) ggX5_place_X5_layerAt
set_option maxRecDepth 20000 in
theorem ggX5_place_X5_tileAt : GoodIn wsX5_place wsX5_tileAt := goodIn_ca (goodIn_r _ [18, 12, 13, 19, 137, 138, 139, 140, 141, 142] (by decide +kernel) (by decide +kernel)) (goodIn_sub (fun _ h => List.mem_cons_of_mem _ (List.mem_append_right _ h)) (by decide +kernel))
set_option maxRecDepth 20000 in
theorem gX5_place_X5_tileAt : GoodIn wsX5_place (wsV RX5 102 RX5 yX5_tileAt wsX5_tileAt) := goodIn_app (goodIn_of _ (by decide +kernel)) ggX5_place_X5_tileAt
set_option maxRecDepth 20000 in
theorem ggX5_place_X2_weigh : GoodIn wsX5_place wsX2_weigh := goodIn_r _ [24, 25, 26, 27, 28, 29, 30, 31, 32, 33, 34, 35, 36, 37, 38, 39, 40, 41, 42, 43, 44, 45, 46, 47, 48, 49, 50, 51, 52, 53, 10, 54, 117, 118, 119, 120, 121, 122, 123, 124, 143, 144, 125, 126, 127, 128, 129, 130, 131, 132, 133, 134, 135, 136] (by decide +kernel) (by decide +kernel)
set_option maxRecDepth 20000 in
theorem gX5_place_X2_weigh : GoodIn wsX5_place (wsV RX5 116 RX2 yX2_weigh wsX2_weigh) := goodIn_app (goodIn_of _ (by decide +kernel)) ggX5_place_X2_weigh
set_option maxRecDepth 20000 in
theorem ggX5_place_X2_seat : GoodIn wsX5_place wsX2_seat := goodIn_r _ [58, 25, 59, 60, 61, 62, 23, 63, 64, 65, 66, 67, 68, 69, 70, 71, 72, 73, 74, 75, 76, 77, 78, 79, 80, 81, 82, 83, 26, 84, 85, 86, 87, 117, 118, 119, 120, 121, 122, 123, 124, 143, 144] (by decide +kernel) (by decide +kernel)
set_option maxRecDepth 20000 in
theorem gX5_place_X2_seat : GoodIn wsX5_place (wsV RX5 120 RX2 yX2_seat wsX2_seat) := goodIn_app (goodIn_of _ (by decide +kernel)) ggX5_place_X2_seat
set_option maxRecDepth 20000 in
theorem ggX5_place_X0_writeOn : GoodIn wsX5_place wsX0_writeOn := goodIn_r _ [91, 92, 93, 32, 33, 34, 30, 35, 36, 37, 38, 39, 40, 41, 42, 43, 44, 45, 94, 95, 96, 49, 97, 98, 52, 99, 100, 101, 51, 53, 10, 54, 102, 103, 104, 105, 106, 107, 108, 78, 109, 110, 111, 112, 113, 114, 115, 116, 117, 118, 119, 120, 121, 122, 123, 124, 125, 126, 127, 128, 129, 130, 131, 132, 133, 134, 135, 136, 145, 146, 147] (by decide +kernel) (by decide +kernel)
set_option maxRecDepth 20000 in
theorem gX5_place_X0_writeOn : GoodIn wsX5_place (wsV RX5 124 RX0 yX0_writeOn wsX0_writeOn) := goodIn_app (goodIn_of _ (by decide +kernel)) ggX5_place_X0_writeOn
theorem dX5_place_0 : decode cX5_place 0 = .ok (.aload_n 0, 1) := by decide +kernel
theorem dX5_place_1 : decode cX5_place 1 = .ok (.iload_n 1, 1) := by decide +kernel
theorem dX5_place_2 : decode cX5_place 2 = .ok (.invokevirtual 62, 3) := by decide +kernel
theorem dX5_place_5 : decode cX5_place 5 = .ok (.astore_n 3, 1) := by decide +kernel
theorem dX5_place_6 : decode cX5_place 6 = .ok (.aload_n 0, 1) := by decide +kernel
theorem dX5_place_7 : decode cX5_place 7 = .ok (.iload_n 2, 1) := by decide +kernel
theorem dX5_place_8 : decode cX5_place 8 = .ok (.invokevirtual 102, 3) := by decide +kernel
theorem dX5_place_11 : decode cX5_place 11 = .ok (.astore 4, 2) := by decide +kernel
theorem dX5_place_13 : decode cX5_place 13 = .ok (.aload_n 3, 1) := by decide +kernel
theorem dX5_place_14 : decode cX5_place 14 = .ok (.getfield 106, 3) := by decide +kernel
theorem dX5_place_17 : decode cX5_place 17 = .ok (.ifnonnull 11, 3) := by decide +kernel
theorem dX5_place_20 : decode cX5_place 20 = .ok (.aload 4, 2) := by decide +kernel
theorem dX5_place_22 : decode cX5_place 22 = .ok (.getfield 110, 3) := by decide +kernel
theorem dX5_place_25 : decode cX5_place 25 = .ok (.ifCond .eq 13, 3) := by decide +kernel
theorem dX5_place_28 : decode cX5_place 28 = .ok (.new 53, 3) := by decide +kernel
theorem dX5_place_31 : decode cX5_place 31 = .ok (.dup, 1) := by decide +kernel
theorem dX5_place_32 : decode cX5_place 32 = .ok (.ldc 114, 2) := by decide +kernel
theorem dX5_place_34 : decode cX5_place 34 = .ok (.invokespecial 57, 3) := by decide +kernel
theorem dX5_place_37 : decode cX5_place 37 = .ok (.athrow, 1) := by decide +kernel
theorem dX5_place_38 : decode cX5_place 38 = .ok (.aload_n 0, 1) := by decide +kernel
theorem dX5_place_39 : decode cX5_place 39 = .ok (.getfield 31, 3) := by decide +kernel
theorem dX5_place_42 : decode cX5_place 42 = .ok (.aload_n 3, 1) := by decide +kernel
theorem dX5_place_43 : decode cX5_place 43 = .ok (.aload 4, 2) := by decide +kernel
theorem dX5_place_45 : decode cX5_place 45 = .ok (.invokevirtual 116, 3) := by decide +kernel
theorem dX5_place_48 : decode cX5_place 48 = .ok (.aload_n 0, 1) := by decide +kernel
theorem dX5_place_49 : decode cX5_place 49 = .ok (.getfield 31, 3) := by decide +kernel
theorem dX5_place_52 : decode cX5_place 52 = .ok (.aload_n 3, 1) := by decide +kernel
theorem dX5_place_53 : decode cX5_place 53 = .ok (.invokevirtual 120, 3) := by decide +kernel
theorem dX5_place_56 : decode cX5_place 56 = .ok (.aload_n 3, 1) := by decide +kernel
theorem dX5_place_57 : decode cX5_place 57 = .ok (.aload 4, 2) := by decide +kernel
theorem dX5_place_59 : decode cX5_place 59 = .ok (.putfield 106, 3) := by decide +kernel
theorem dX5_place_62 : decode cX5_place 62 = .ok (.aload 4, 2) := by decide +kernel
theorem dX5_place_64 : decode cX5_place 64 = .ok (.iconst 1, 1) := by decide +kernel
theorem dX5_place_65 : decode cX5_place 65 = .ok (.putfield 110, 3) := by decide +kernel
theorem dX5_place_68 : decode cX5_place 68 = .ok (.aload_n 3, 1) := by decide +kernel
theorem dX5_place_69 : decode cX5_place 69 = .ok (.aload 4, 2) := by decide +kernel
theorem dX5_place_71 : decode cX5_place 71 = .ok (.aload_n 0, 1) := by decide +kernel
theorem dX5_place_72 : decode cX5_place 72 = .ok (.getfield 12, 3) := by decide +kernel
theorem dX5_place_75 : decode cX5_place 75 = .ok (.invokevirtual 124, 3) := by decide +kernel
theorem dX5_place_78 : decode cX5_place 78 = .ok (.ireturn, 1) := by decide +kernel
set_option maxRecDepth 20000 in
theorem ggX5_load_X5_layerAt : GoodIn wsX5_load wsX5_layerAt := goodIn_ca (goodIn_r _ [6, 7, 8, 9, 66, 67, 68, 69, 70, 71] (by decide +kernel) (by decide +kernel)) (goodIn_sub (fun _ h => List.mem_cons_of_mem _ (List.mem_append_left _ (List.mem_append_right _ h))) (by decide +kernel))
set_option maxRecDepth 20000 in
theorem gX5_load_X5_layerAt : GoodIn wsX5_load (wsV RX5 62 RX5 yX5_layerAt wsX5_layerAt) := goodIn_app (goodIn_of _ (by decide +kernel)) ggX5_load_X5_layerAt
set_option maxRecDepth 20000 in
theorem ggX5_load_X5_groundOf : GoodIn wsX5_load wsX5_groundOf := goodIn_ca (goodIn_r _ [12, 13, 14, 15, 72, 73, 74, 75, 76, 77, 78, 79] (by decide +kernel) (by decide +kernel)) (goodIn_sub (fun _ h => List.mem_cons_of_mem _ (List.mem_append_right _ h)) (by decide +kernel))
set_option maxRecDepth 20000 in
theorem gX5_load_X5_groundOf : GoodIn wsX5_load (va_wsS RX5 128 yX5_groundOf wsX5_groundOf) := goodIn_app (goodIn_of _ (by decide +kernel)) ggX5_load_X5_groundOf
set_option maxRecDepth 20000 in
theorem ggX5_load_X0_writeOn : GoodIn wsX5_load wsX0_writeOn := goodIn_r _ [20, 21, 22, 23, 24, 25, 19, 26, 27, 28, 29, 30, 31, 32, 33, 34, 35, 36, 37, 38, 39, 40, 41, 42, 43, 44, 45, 46, 47, 48, 5, 49, 50, 51, 52, 53, 54, 55, 56, 57, 58, 59, 60, 61, 62, 63, 64, 65, 72, 73, 74, 75, 76, 77, 78, 79, 80, 81, 82, 83, 84, 85, 86, 87, 88, 89, 90, 91, 92, 93, 94] (by decide +kernel) (by decide +kernel)
set_option maxRecDepth 20000 in
theorem gX5_load_X0_writeOn : GoodIn wsX5_load (wsV RX5 124 RX0 yX0_writeOn wsX0_writeOn) := goodIn_app (goodIn_of _ (by decide +kernel)) ggX5_load_X0_writeOn
theorem dX5_load_0 : decode cX5_load 0 = .ok (.aload_n 0, 1) := by decide +kernel
theorem dX5_load_1 : decode cX5_load 1 = .ok (.iload_n 1, 1) := by decide +kernel
theorem dX5_load_2 : decode cX5_load 2 = .ok (.invokevirtual 62, 3) := by decide +kernel
theorem dX5_load_5 : decode cX5_load 5 = .ok (.astore_n 2, 1) := by decide +kernel
theorem dX5_load_6 : decode cX5_load 6 = .ok (.aload_n 2, 1) := by decide +kernel
theorem dX5_load_7 : decode cX5_load 7 = .ok (.aload_n 2, 1) := by decide +kernel
theorem dX5_load_8 : decode cX5_load 8 = .ok (.invokestatic 128, 3) := by decide +kernel
theorem dX5_load_11 : decode cX5_load 11 = .ok (.aload_n 0, 1) := by decide +kernel
theorem dX5_load_12 : decode cX5_load 12 = .ok (.getfield 12, 3) := by decide +kernel
theorem dX5_load_15 : decode cX5_load 15 = .ok (.invokevirtual 124, 3) := by decide +kernel
theorem dX5_load_18 : decode cX5_load 18 = .ok (.ireturn, 1) := by decide +kernel
set_option maxRecDepth 20000 in
theorem ggX5_lift_X5_layerAt : GoodIn wsX5_lift wsX5_layerAt := goodIn_ca (goodIn_r _ [8, 9, 10, 11, 37, 38, 39, 40, 41, 42] (by decide +kernel) (by decide +kernel)) (goodIn_sub (fun _ h => List.mem_cons_of_mem _ (List.mem_append_left _ (List.mem_append_right _ h))) (by decide +kernel))
set_option maxRecDepth 20000 in
theorem gX5_lift_X5_layerAt : GoodIn wsX5_lift (wsV RX5 62 RX5 yX5_layerAt wsX5_layerAt) := goodIn_app (goodIn_of _ (by decide +kernel)) ggX5_lift_X5_layerAt
set_option maxRecDepth 20000 in
theorem ggX5_lift_X5_groundOf : GoodIn wsX5_lift wsX5_groundOf := goodIn_ca (goodIn_r _ [14, 15, 16, 1, 17, 18, 19, 20, 21, 22, 23, 24] (by decide +kernel) (by decide +kernel)) (goodIn_sub (fun _ h => List.mem_cons_of_mem _ (List.mem_append_right _ h)) (by decide +kernel))
set_option maxRecDepth 20000 in
theorem gX5_lift_X5_groundOf : GoodIn wsX5_lift (va_wsS RX5 128 yX5_groundOf wsX5_groundOf) := goodIn_app (goodIn_of _ (by decide +kernel)) ggX5_lift_X5_groundOf
theorem dX5_lift_0 : decode cX5_lift 0 = .ok (.aload_n 0, 1) := by decide +kernel
theorem dX5_lift_1 : decode cX5_lift 1 = .ok (.iload_n 1, 1) := by decide +kernel
theorem dX5_lift_2 : decode cX5_lift 2 = .ok (.invokevirtual 62, 3) := by decide +kernel
theorem dX5_lift_5 : decode cX5_lift 5 = .ok (.astore_n 2, 1) := by decide +kernel
theorem dX5_lift_6 : decode cX5_lift 6 = .ok (.aload_n 2, 1) := by decide +kernel
theorem dX5_lift_7 : decode cX5_lift 7 = .ok (.invokestatic 128, 3) := by decide +kernel
theorem dX5_lift_10 : decode cX5_lift 10 = .ok (.astore_n 3, 1) := by decide +kernel
theorem dX5_lift_11 : decode cX5_lift 11 = .ok (.aload_n 2, 1) := by decide +kernel
theorem dX5_lift_12 : decode cX5_lift 12 = .ok (.aconst_null, 1) := by decide +kernel
theorem dX5_lift_13 : decode cX5_lift 13 = .ok (.putfield 106, 3) := by decide +kernel
theorem dX5_lift_16 : decode cX5_lift 16 = .ok (.aload_n 3, 1) := by decide +kernel
theorem dX5_lift_17 : decode cX5_lift 17 = .ok (.iconst 0, 1) := by decide +kernel
theorem dX5_lift_18 : decode cX5_lift 18 = .ok (.putfield 110, 3) := by decide +kernel
theorem dX5_lift_21 : decode cX5_lift 21 = .ok (.aload_n 3, 1) := by decide +kernel
theorem dX5_lift_22 : decode cX5_lift 22 = .ok (.getfield 132, 3) := by decide +kernel
theorem dX5_lift_25 : decode cX5_lift 25 = .ok (.ireturn, 1) := by decide +kernel
set_option maxRecDepth 20000 in
theorem ggX5_stick_X5_tileAt : GoodIn wsX5_stick wsX5_tileAt := goodIn_ca (goodIn_r _ [7, 8, 9, 10, 28, 29, 30, 31, 32, 33] (by decide +kernel) (by decide +kernel)) (goodIn_sub (fun _ h => List.mem_cons_of_mem _ (List.mem_append_left _ (List.mem_append_right _ h))) (by decide +kernel))
set_option maxRecDepth 20000 in
theorem gX5_stick_X5_tileAt : GoodIn wsX5_stick (wsV RX5 102 RX5 yX5_tileAt wsX5_tileAt) := goodIn_app (goodIn_of _ (by decide +kernel)) ggX5_stick_X5_tileAt
set_option maxRecDepth 20000 in
theorem ggX5_stick_X5_checkIndex : GoodIn wsX5_stick wsX5_checkIndex := goodIn_ca (goodIn_r _ [13, 8, 9] (by decide +kernel) (by decide +kernel)) (goodIn_sub (fun _ h => List.mem_cons_of_mem _ (List.mem_append_left _ (List.mem_append_right _ h))) (by decide +kernel))
set_option maxRecDepth 20000 in
theorem gX5_stick_X5_checkIndex : GoodIn wsX5_stick (va_wsS RX5 69 yX5_checkIndex wsX5_checkIndex) := goodIn_app (goodIn_of _ (by decide +kernel)) ggX5_stick_X5_checkIndex
set_option maxRecDepth 20000 in
theorem ggX5_stick_X5_checkArgument : GoodIn wsX5_stick wsX5_checkArgument := goodIn_ca (goodIn_r _ [16, 17, 18] (by decide +kernel) (by decide +kernel)) (goodIn_sub (fun _ h => List.mem_cons_of_mem _ (List.mem_append_right _ h)) (by decide +kernel))
set_option maxRecDepth 20000 in
theorem gX5_stick_X5_checkArgument : GoodIn wsX5_stick (va_wsS RX5 49 yX5_checkArgument wsX5_checkArgument) := goodIn_app (goodIn_of _ (by decide +kernel)) ggX5_stick_X5_checkArgument
set_option maxRecDepth 20000 in
theorem ggX5_stick_X4_becomesStuck : GoodIn wsX5_stick wsX4_becomesStuck := goodIn_r _ [23, 24, 25, 26, 6, 27, 34, 35, 36, 37, 38, 39, 40, 41, 42, 43, 44, 45] (by decide +kernel) (by decide +kernel)
set_option maxRecDepth 20000 in
theorem gX5_stick_X4_becomesStuck : GoodIn wsX5_stick (wsV RX5 133 RX4 yX4_becomesStuck wsX4_becomesStuck) := goodIn_app (goodIn_of _ (by decide +kernel)) ggX5_stick_X4_becomesStuck
theorem dX5_stick_0 : decode cX5_stick 0 = .ok (.aload_n 0, 1) := by decide +kernel
theorem dX5_stick_1 : decode cX5_stick 1 = .ok (.iload_n 1, 1) := by decide +kernel
theorem dX5_stick_2 : decode cX5_stick 2 = .ok (.invokevirtual 102, 3) := by decide +kernel
theorem dX5_stick_5 : decode cX5_stick 5 = .ok (.astore 5, 2) := by decide +kernel
theorem dX5_stick_7 : decode cX5_stick 7 = .ok (.iload_n 2, 1) := by decide +kernel
theorem dX5_stick_8 : decode cX5_stick 8 = .ok (.bipush 8, 2) := by decide +kernel
theorem dX5_stick_10 : decode cX5_stick 10 = .ok (.invokestatic 69, 3) := by decide +kernel
theorem dX5_stick_13 : decode cX5_stick 13 = .ok (.iload_n 3, 1) := by decide +kernel
theorem dX5_stick_14 : decode cX5_stick 14 = .ok (.bipush 16, 2) := by decide +kernel
theorem dX5_stick_16 : decode cX5_stick 16 = .ok (.invokestatic 69, 3) := by decide +kernel
theorem dX5_stick_19 : decode cX5_stick 19 = .ok (.iload 4, 2) := by decide +kernel
theorem dX5_stick_21 : decode cX5_stick 21 = .ok (.iconst 0, 1) := by decide +kernel
theorem dX5_stick_22 : decode cX5_stick 22 = .ok (.bipush 15, 2) := by decide +kernel
theorem dX5_stick_24 : decode cX5_stick 24 = .ok (.invokestatic 49, 3) := by decide +kernel
theorem dX5_stick_27 : decode cX5_stick 27 = .ok (.aload 5, 2) := by decide +kernel
theorem dX5_stick_29 : decode cX5_stick 29 = .ok (.iload_n 2, 1) := by decide +kernel
theorem dX5_stick_30 : decode cX5_stick 30 = .ok (.iload_n 3, 1) := by decide +kernel
theorem dX5_stick_31 : decode cX5_stick 31 = .ok (.iload 4, 2) := by decide +kernel
theorem dX5_stick_33 : decode cX5_stick 33 = .ok (.invokevirtual 133, 3) := by decide +kernel
theorem dX5_stick_36 : decode cX5_stick 36 = .ok (.ifCond .ne 13, 3) := by decide +kernel
theorem dX5_stick_39 : decode cX5_stick 39 = .ok (.new 53, 3) := by decide +kernel
theorem dX5_stick_42 : decode cX5_stick 42 = .ok (.dup, 1) := by decide +kernel
theorem dX5_stick_43 : decode cX5_stick 43 = .ok (.ldc 137, 2) := by decide +kernel
theorem dX5_stick_45 : decode cX5_stick 45 = .ok (.invokespecial 57, 3) := by decide +kernel
theorem dX5_stick_48 : decode cX5_stick 48 = .ok (.athrow, 1) := by decide +kernel
theorem dX5_stick_49 : decode cX5_stick 49 = .ok (.return_, 1) := by decide +kernel
set_option maxRecDepth 20000 in
theorem ggX5_spoil_X5_tileAt : GoodIn wsX5_spoil wsX5_tileAt := goodIn_ca (goodIn_r _ [6, 7, 8, 9, 28, 29, 30, 31, 32, 33] (by decide +kernel) (by decide +kernel)) (goodIn_sub (fun _ h => List.mem_cons_of_mem _ (List.mem_append_left _ (List.mem_append_right _ h))) (by decide +kernel))
set_option maxRecDepth 20000 in
theorem gX5_spoil_X5_tileAt : GoodIn wsX5_spoil (wsV RX5 102 RX5 yX5_tileAt wsX5_tileAt) := goodIn_app (goodIn_of _ (by decide +kernel)) ggX5_spoil_X5_tileAt
set_option maxRecDepth 20000 in
theorem ggX5_spoil_X5_checkArgument : GoodIn wsX5_spoil wsX5_checkArgument := goodIn_ca (goodIn_r _ [12, 13, 14] (by decide +kernel) (by decide +kernel)) (goodIn_sub (fun _ h => List.mem_cons_of_mem _ (List.mem_append_right _ h)) (by decide +kernel))
set_option maxRecDepth 20000 in
theorem gX5_spoil_X5_checkArgument : GoodIn wsX5_spoil (va_wsS RX5 49 yX5_checkArgument wsX5_checkArgument) := goodIn_app (goodIn_of _ (by decide +kernel)) ggX5_spoil_X5_checkArgument
set_option maxRecDepth 20000 in
theorem ggX5_spoil_X5_drawBehind : GoodIn wsX5_spoil wsX5_drawBehind := goodIn_r _ [17, 18] (by decide +kernel) (by decide +kernel)
set_option maxRecDepth 20000 in
theorem gX5_spoil_X5_drawBehind : GoodIn wsX5_spoil (va_wsS RX5 140 yX5_drawBehind wsX5_drawBehind) := goodIn_app (goodIn_of _ (by decide +kernel)) ggX5_spoil_X5_drawBehind
set_option maxRecDepth 20000 in
theorem ggX5_spoil_X4_becomesStuck : GoodIn wsX5_spoil wsX4_becomesStuck := goodIn_r _ [23, 24, 25, 26, 5, 27, 34, 35, 36, 37, 38, 39, 40, 41, 42, 43, 44, 45] (by decide +kernel) (by decide +kernel)
set_option maxRecDepth 20000 in
theorem gX5_spoil_X4_becomesStuck : GoodIn wsX5_spoil (wsV RX5 133 RX4 yX4_becomesStuck wsX4_becomesStuck) := goodIn_app (goodIn_of _ (by decide +kernel)) ggX5_spoil_X4_becomesStuck
theorem dX5_spoil_0 : decode cX5_spoil 0 = .ok (.aload_n 0, 1) := by decide +kernel
theorem dX5_spoil_1 : decode cX5_spoil 1 = .ok (.iload_n 1, 1) := by decide +kernel
theorem dX5_spoil_2 : decode cX5_spoil 2 = .ok (.invokevirtual 102, 3) := by decide +kernel
theorem dX5_spoil_5 : decode cX5_spoil 5 = .ok (.astore 4, 2) := by decide +kernel
theorem dX5_spoil_7 : decode cX5_spoil 7 = .ok (.iload_n 2, 1) := by decide +kernel
theorem dX5_spoil_8 : decode cX5_spoil 8 = .ok (.iconst 0, 1) := by decide +kernel
theorem dX5_spoil_9 : decode cX5_spoil 9 = .ok (.ldc 139, 2) := by decide +kernel
theorem dX5_spoil_11 : decode cX5_spoil 11 = .ok (.invokestatic 49, 3) := by decide +kernel
theorem dX5_spoil_14 : decode cX5_spoil 14 = .ok (.iload_n 3, 1) := by decide +kernel
theorem dX5_spoil_15 : decode cX5_spoil 15 = .ok (.iconst 1, 1) := by decide +kernel
theorem dX5_spoil_16 : decode cX5_spoil 16 = .ok (.bipush 20, 2) := by decide +kernel
theorem dX5_spoil_18 : decode cX5_spoil 18 = .ok (.invokestatic 49, 3) := by decide +kernel
theorem dX5_spoil_21 : decode cX5_spoil 21 = .ok (.iconst 0, 1) := by decide +kernel
theorem dX5_spoil_22 : decode cX5_spoil 22 = .ok (.istore 5, 2) := by decide +kernel
theorem dX5_spoil_24 : decode cX5_spoil 24 = .ok (.iload_n 2, 1) := by decide +kernel
theorem dX5_spoil_25 : decode cX5_spoil 25 = .ok (.istore 6, 2) := by decide +kernel
theorem dX5_spoil_27 : decode cX5_spoil 27 = .ok (.iconst 0, 1) := by decide +kernel
theorem dX5_spoil_28 : decode cX5_spoil 28 = .ok (.istore 7, 2) := by decide +kernel
theorem dX5_spoil_30 : decode cX5_spoil 30 = .ok (.iload 7, 2) := by decide +kernel
theorem dX5_spoil_32 : decode cX5_spoil 32 = .ok (.iload_n 3, 1) := by decide +kernel
theorem dX5_spoil_33 : decode cX5_spoil 33 = .ok (.if_icmp .ge 57, 3) := by decide +kernel
theorem dX5_spoil_36 : decode cX5_spoil 36 = .ok (.iload 6, 2) := by decide +kernel
theorem dX5_spoil_38 : decode cX5_spoil 38 = .ok (.invokestatic 140, 3) := by decide +kernel
theorem dX5_spoil_41 : decode cX5_spoil 41 = .ok (.istore 6, 2) := by decide +kernel
theorem dX5_spoil_43 : decode cX5_spoil 43 = .ok (.iload 6, 2) := by decide +kernel
theorem dX5_spoil_45 : decode cX5_spoil 45 = .ok (.sipush 128, 3) := by decide +kernel
theorem dX5_spoil_48 : decode cX5_spoil 48 = .ok (.irem, 1) := by decide +kernel
theorem dX5_spoil_49 : decode cX5_spoil 49 = .ok (.istore 8, 2) := by decide +kernel
theorem dX5_spoil_51 : decode cX5_spoil 51 = .ok (.iload 6, 2) := by decide +kernel
theorem dX5_spoil_53 : decode cX5_spoil 53 = .ok (.invokestatic 140, 3) := by decide +kernel
theorem dX5_spoil_56 : decode cX5_spoil 56 = .ok (.istore 6, 2) := by decide +kernel
theorem dX5_spoil_58 : decode cX5_spoil 58 = .ok (.aload 4, 2) := by decide +kernel
theorem dX5_spoil_60 : decode cX5_spoil 60 = .ok (.iload 8, 2) := by decide +kernel
theorem dX5_spoil_62 : decode cX5_spoil 62 = .ok (.bipush 16, 2) := by decide +kernel
theorem dX5_spoil_64 : decode cX5_spoil 64 = .ok (.idiv, 1) := by decide +kernel
theorem dX5_spoil_65 : decode cX5_spoil 65 = .ok (.iload 8, 2) := by decide +kernel
theorem dX5_spoil_67 : decode cX5_spoil 67 = .ok (.bipush 16, 2) := by decide +kernel
theorem dX5_spoil_69 : decode cX5_spoil 69 = .ok (.irem, 1) := by decide +kernel
theorem dX5_spoil_70 : decode cX5_spoil 70 = .ok (.iload 6, 2) := by decide +kernel
theorem dX5_spoil_72 : decode cX5_spoil 72 = .ok (.bipush 16, 2) := by decide +kernel
theorem dX5_spoil_74 : decode cX5_spoil 74 = .ok (.irem, 1) := by decide +kernel
theorem dX5_spoil_75 : decode cX5_spoil 75 = .ok (.invokevirtual 133, 3) := by decide +kernel
theorem dX5_spoil_78 : decode cX5_spoil 78 = .ok (.ifCond .eq 6, 3) := by decide +kernel
theorem dX5_spoil_81 : decode cX5_spoil 81 = .ok (.iinc 5 1, 3) := by decide +kernel
theorem dX5_spoil_84 : decode cX5_spoil 84 = .ok (.iinc 7 1, 3) := by decide +kernel
theorem dX5_spoil_87 : decode cX5_spoil 87 = .ok (.goto (-57), 3) := by decide +kernel
theorem dX5_spoil_90 : decode cX5_spoil 90 = .ok (.iload 5, 2) := by decide +kernel
theorem dX5_spoil_92 : decode cX5_spoil 92 = .ok (.ireturn, 1) := by decide +kernel
set_option maxRecDepth 20000 in
theorem ggX5_drift_X5_checkArgument : GoodIn wsX5_drift wsX5_checkArgument := goodIn_ca (goodIn_r _ [6, 7, 8] (by decide +kernel) (by decide +kernel)) (goodIn_sub (fun _ h => List.mem_cons_of_mem _ (List.mem_append_right _ h)) (by decide +kernel))
set_option maxRecDepth 20000 in
theorem gX5_drift_X5_checkArgument : GoodIn wsX5_drift (va_wsS RX5 49 yX5_checkArgument wsX5_checkArgument) := goodIn_app (goodIn_of _ (by decide +kernel)) ggX5_drift_X5_checkArgument
theorem dX5_drift_0 : decode cX5_drift 0 = .ok (.iload_n 1, 1) := by decide +kernel
theorem dX5_drift_1 : decode cX5_drift 1 = .ok (.iconst 0, 1) := by decide +kernel
theorem dX5_drift_2 : decode cX5_drift 2 = .ok (.sipush 1000, 3) := by decide +kernel
theorem dX5_drift_5 : decode cX5_drift 5 = .ok (.invokestatic 49, 3) := by decide +kernel
theorem dX5_drift_8 : decode cX5_drift 8 = .ok (.aload_n 0, 1) := by decide +kernel
theorem dX5_drift_9 : decode cX5_drift 9 = .ok (.getfield 12, 3) := by decide +kernel
theorem dX5_drift_12 : decode cX5_drift 12 = .ok (.getfield 144, 3) := by decide +kernel
theorem dX5_drift_15 : decode cX5_drift 15 = .ok (.istore_n 2, 1) := by decide +kernel
theorem dX5_drift_16 : decode cX5_drift 16 = .ok (.aload_n 0, 1) := by decide +kernel
theorem dX5_drift_17 : decode cX5_drift 17 = .ok (.getfield 12, 3) := by decide +kernel
theorem dX5_drift_20 : decode cX5_drift 20 = .ok (.iload_n 1, 1) := by decide +kernel
theorem dX5_drift_21 : decode cX5_drift 21 = .ok (.putfield 144, 3) := by decide +kernel
theorem dX5_drift_24 : decode cX5_drift 24 = .ok (.iload_n 2, 1) := by decide +kernel
theorem dX5_drift_25 : decode cX5_drift 25 = .ok (.ireturn, 1) := by decide +kernel
set_option maxRecDepth 20000 in
theorem ggX5_endurance_X5_checkArgument : GoodIn wsX5_endurance wsX5_checkArgument := goodIn_ca (goodIn_r _ [7, 8, 9] (by decide +kernel) (by decide +kernel)) (goodIn_sub (fun _ h => List.mem_cons_of_mem _ (List.mem_append_right _ h)) (by decide +kernel))
set_option maxRecDepth 20000 in
theorem gX5_endurance_X5_checkArgument : GoodIn wsX5_endurance (va_wsS RX5 49 yX5_checkArgument wsX5_checkArgument) := goodIn_app (goodIn_of _ (by decide +kernel)) ggX5_endurance_X5_checkArgument
theorem dX5_endurance_0 : decode cX5_endurance 0 = .ok (.iload_n 1, 1) := by decide +kernel
theorem dX5_endurance_1 : decode cX5_endurance 1 = .ok (.iconst 1, 1) := by decide +kernel
theorem dX5_endurance_2 : decode cX5_endurance 2 = .ok (.ldc 147, 2) := by decide +kernel
theorem dX5_endurance_4 : decode cX5_endurance 4 = .ok (.invokestatic 49, 3) := by decide +kernel
theorem dX5_endurance_7 : decode cX5_endurance 7 = .ok (.aload_n 0, 1) := by decide +kernel
theorem dX5_endurance_8 : decode cX5_endurance 8 = .ok (.getfield 12, 3) := by decide +kernel
theorem dX5_endurance_11 : decode cX5_endurance 11 = .ok (.getfield 148, 3) := by decide +kernel
theorem dX5_endurance_14 : decode cX5_endurance 14 = .ok (.istore_n 2, 1) := by decide +kernel
theorem dX5_endurance_15 : decode cX5_endurance 15 = .ok (.aload_n 0, 1) := by decide +kernel
theorem dX5_endurance_16 : decode cX5_endurance 16 = .ok (.getfield 12, 3) := by decide +kernel
theorem dX5_endurance_19 : decode cX5_endurance 19 = .ok (.iload_n 1, 1) := by decide +kernel
theorem dX5_endurance_20 : decode cX5_endurance 20 = .ok (.putfield 148, 3) := by decide +kernel
theorem dX5_endurance_23 : decode cX5_endurance 23 = .ok (.iload_n 2, 1) := by decide +kernel
theorem dX5_endurance_24 : decode cX5_endurance 24 = .ok (.ireturn, 1) := by decide +kernel
set_option maxRecDepth 20000 in
theorem ggX5_pass_X5_checkArgument : GoodIn wsX5_pass wsX5_checkArgument := goodIn_ca (goodIn_r _ [9, 10, 11] (by decide +kernel) (by decide +kernel)) (goodIn_sub (fun _ h => List.mem_cons_of_mem _ (List.mem_append_right _ h)) (by decide +kernel))
set_option maxRecDepth 20000 in
theorem gX5_pass_X5_checkArgument : GoodIn wsX5_pass (va_wsS RX5 49 yX5_checkArgument wsX5_checkArgument) := goodIn_app (goodIn_of _ (by decide +kernel)) ggX5_pass_X5_checkArgument
theorem dX5_pass_0 : decode cX5_pass 0 = .ok (.iload_n 1, 1) := by decide +kernel
theorem dX5_pass_1 : decode cX5_pass 1 = .ok (.iconst 1, 1) := by decide +kernel
theorem dX5_pass_2 : decode cX5_pass 2 = .ok (.sipush 10000, 3) := by decide +kernel
theorem dX5_pass_5 : decode cX5_pass 5 = .ok (.invokestatic 49, 3) := by decide +kernel
theorem dX5_pass_8 : decode cX5_pass 8 = .ok (.aload_n 0, 1) := by decide +kernel
theorem dX5_pass_9 : decode cX5_pass 9 = .ok (.getfield 12, 3) := by decide +kernel
theorem dX5_pass_12 : decode cX5_pass 12 = .ok (.getfield 151, 3) := by decide +kernel
theorem dX5_pass_15 : decode cX5_pass 15 = .ok (.iload_n 1, 1) := by decide +kernel
theorem dX5_pass_16 : decode cX5_pass 16 = .ok (.iadd, 1) := by decide +kernel
theorem dX5_pass_17 : decode cX5_pass 17 = .ok (.ldc 154, 2) := by decide +kernel
theorem dX5_pass_19 : decode cX5_pass 19 = .ok (.if_icmp .le 13, 3) := by decide +kernel
theorem dX5_pass_22 : decode cX5_pass 22 = .ok (.new 53, 3) := by decide +kernel
theorem dX5_pass_25 : decode cX5_pass 25 = .ok (.dup, 1) := by decide +kernel
theorem dX5_pass_26 : decode cX5_pass 26 = .ok (.ldc 155, 2) := by decide +kernel
theorem dX5_pass_28 : decode cX5_pass 28 = .ok (.invokespecial 57, 3) := by decide +kernel
theorem dX5_pass_31 : decode cX5_pass 31 = .ok (.athrow, 1) := by decide +kernel
theorem dX5_pass_32 : decode cX5_pass 32 = .ok (.aload_n 0, 1) := by decide +kernel
theorem dX5_pass_33 : decode cX5_pass 33 = .ok (.getfield 12, 3) := by decide +kernel
theorem dX5_pass_36 : decode cX5_pass 36 = .ok (.dup, 1) := by decide +kernel
theorem dX5_pass_37 : decode cX5_pass 37 = .ok (.getfield 151, 3) := by decide +kernel
theorem dX5_pass_40 : decode cX5_pass 40 = .ok (.iload_n 1, 1) := by decide +kernel
theorem dX5_pass_41 : decode cX5_pass 41 = .ok (.iadd, 1) := by decide +kernel
theorem dX5_pass_42 : decode cX5_pass 42 = .ok (.putfield 151, 3) := by decide +kernel
theorem dX5_pass_45 : decode cX5_pass 45 = .ok (.aload_n 0, 1) := by decide +kernel
theorem dX5_pass_46 : decode cX5_pass 46 = .ok (.getfield 12, 3) := by decide +kernel
theorem dX5_pass_49 : decode cX5_pass 49 = .ok (.getfield 151, 3) := by decide +kernel
theorem dX5_pass_52 : decode cX5_pass 52 = .ok (.ireturn, 1) := by decide +kernel
set_option maxRecDepth 20000 in
theorem ggX5_converter_X5_tileAt : GoodIn wsX5_converter wsX5_tileAt := goodIn_ca (goodIn_r _ [7, 8, 9, 10, 28, 29, 30, 31, 32, 33] (by decide +kernel) (by decide +kernel)) (goodIn_sub (fun _ h => List.mem_cons_of_mem _ (List.mem_append_left _ (List.mem_append_right _ h))) (by decide +kernel))
set_option maxRecDepth 20000 in
theorem gX5_converter_X5_tileAt : GoodIn wsX5_converter (wsV RX5 102 RX5 yX5_tileAt wsX5_tileAt) := goodIn_app (goodIn_of _ (by decide +kernel)) ggX5_converter_X5_tileAt
set_option maxRecDepth 20000 in
theorem ggX5_converter_X5_checkArgument : GoodIn wsX5_converter wsX5_checkArgument := goodIn_ca (goodIn_r _ [13, 14, 15] (by decide +kernel) (by decide +kernel)) (goodIn_sub (fun _ h => List.mem_cons_of_mem _ (List.mem_append_right _ h)) (by decide +kernel))
set_option maxRecDepth 20000 in
theorem gX5_converter_X5_checkArgument : GoodIn wsX5_converter (va_wsS RX5 49 yX5_checkArgument wsX5_checkArgument) := goodIn_app (goodIn_of _ (by decide +kernel)) ggX5_converter_X5_checkArgument
theorem dX5_converter_0 : decode cX5_converter 0 = .ok (.aload_n 0, 1) := by decide +kernel
theorem dX5_converter_1 : decode cX5_converter 1 = .ok (.iload_n 1, 1) := by decide +kernel
theorem dX5_converter_2 : decode cX5_converter 2 = .ok (.invokevirtual 102, 3) := by decide +kernel
theorem dX5_converter_5 : decode cX5_converter 5 = .ok (.astore 4, 2) := by decide +kernel
theorem dX5_converter_7 : decode cX5_converter 7 = .ok (.iload_n 2, 1) := by decide +kernel
theorem dX5_converter_8 : decode cX5_converter 8 = .ok (.iconst 1, 1) := by decide +kernel
theorem dX5_converter_9 : decode cX5_converter 9 = .ok (.bipush 16, 2) := by decide +kernel
theorem dX5_converter_11 : decode cX5_converter 11 = .ok (.invokestatic 49, 3) := by decide +kernel
theorem dX5_converter_14 : decode cX5_converter 14 = .ok (.iload_n 3, 1) := by decide +kernel
theorem dX5_converter_15 : decode cX5_converter 15 = .ok (.iconst 1, 1) := by decide +kernel
theorem dX5_converter_16 : decode cX5_converter 16 = .ok (.bipush 127, 2) := by decide +kernel
theorem dX5_converter_18 : decode cX5_converter 18 = .ok (.invokestatic 49, 3) := by decide +kernel
theorem dX5_converter_21 : decode cX5_converter 21 = .ok (.sipush 1000, 3) := by decide +kernel
theorem dX5_converter_24 : decode cX5_converter 24 = .ok (.aload 4, 2) := by decide +kernel
theorem dX5_converter_26 : decode cX5_converter 26 = .ok (.getfield 157, 3) := by decide +kernel
theorem dX5_converter_29 : decode cX5_converter 29 = .ok (.imul, 1) := by decide +kernel
theorem dX5_converter_30 : decode cX5_converter 30 = .ok (.aload 4, 2) := by decide +kernel
theorem dX5_converter_32 : decode cX5_converter 32 = .ok (.getfield 160, 3) := by decide +kernel
theorem dX5_converter_35 : decode cX5_converter 35 = .ok (.iadd, 1) := by decide +kernel
theorem dX5_converter_36 : decode cX5_converter 36 = .ok (.istore 5, 2) := by decide +kernel
theorem dX5_converter_38 : decode cX5_converter 38 = .ok (.aload 4, 2) := by decide +kernel
theorem dX5_converter_40 : decode cX5_converter 40 = .ok (.iload_n 2, 1) := by decide +kernel
theorem dX5_converter_41 : decode cX5_converter 41 = .ok (.putfield 157, 3) := by decide +kernel
theorem dX5_converter_44 : decode cX5_converter 44 = .ok (.aload 4, 2) := by decide +kernel
theorem dX5_converter_46 : decode cX5_converter 46 = .ok (.iload_n 3, 1) := by decide +kernel
theorem dX5_converter_47 : decode cX5_converter 47 = .ok (.putfield 160, 3) := by decide +kernel
theorem dX5_converter_50 : decode cX5_converter 50 = .ok (.iload 5, 2) := by decide +kernel
theorem dX5_converter_52 : decode cX5_converter 52 = .ok (.ireturn, 1) := by decide +kernel
set_option maxRecDepth 20000 in
theorem ggX5_offset_X5_tileAt : GoodIn wsX5_offset wsX5_tileAt := goodIn_ca (goodIn_r _ [6, 7, 8, 9, 30, 31, 32, 33, 34, 35] (by decide +kernel) (by decide +kernel)) (goodIn_sub (fun _ h => List.mem_cons_of_mem _ (List.mem_append_left _ (List.mem_append_right _ h))) (by decide +kernel))
set_option maxRecDepth 20000 in
theorem gX5_offset_X5_tileAt : GoodIn wsX5_offset (wsV RX5 102 RX5 yX5_tileAt wsX5_tileAt) := goodIn_app (goodIn_of _ (by decide +kernel)) ggX5_offset_X5_tileAt
set_option maxRecDepth 20000 in
theorem ggX5_offset_X5_checkIndex : GoodIn wsX5_offset wsX5_checkIndex := goodIn_ca (goodIn_r _ [12, 7, 8] (by decide +kernel) (by decide +kernel)) (goodIn_sub (fun _ h => List.mem_cons_of_mem _ (List.mem_append_left _ (List.mem_append_right _ h))) (by decide +kernel))
set_option maxRecDepth 20000 in
theorem gX5_offset_X5_checkIndex : GoodIn wsX5_offset (va_wsS RX5 69 yX5_checkIndex wsX5_checkIndex) := goodIn_app (goodIn_of _ (by decide +kernel)) ggX5_offset_X5_checkIndex
set_option maxRecDepth 20000 in
theorem ggX5_offset_X5_checkArgument : GoodIn wsX5_offset wsX5_checkArgument := goodIn_ca (goodIn_r _ [15, 16, 17] (by decide +kernel) (by decide +kernel)) (goodIn_sub (fun _ h => List.mem_cons_of_mem _ (List.mem_append_right _ h)) (by decide +kernel))
set_option maxRecDepth 20000 in
theorem gX5_offset_X5_checkArgument : GoodIn wsX5_offset (va_wsS RX5 49 yX5_checkArgument wsX5_checkArgument) := goodIn_app (goodIn_of _ (by decide +kernel)) ggX5_offset_X5_checkArgument
theorem dX5_offset_0 : decode cX5_offset 0 = .ok (.aload_n 0, 1) := by decide +kernel
theorem dX5_offset_1 : decode cX5_offset 1 = .ok (.iload_n 1, 1) := by decide +kernel
theorem dX5_offset_2 : decode cX5_offset 2 = .ok (.invokevirtual 102, 3) := by decide +kernel
theorem dX5_offset_5 : decode cX5_offset 5 = .ok (.astore 4, 2) := by decide +kernel
theorem dX5_offset_7 : decode cX5_offset 7 = .ok (.iload_n 2, 1) := by decide +kernel
theorem dX5_offset_8 : decode cX5_offset 8 = .ok (.bipush 16, 2) := by decide +kernel
theorem dX5_offset_10 : decode cX5_offset 10 = .ok (.invokestatic 69, 3) := by decide +kernel
theorem dX5_offset_13 : decode cX5_offset 13 = .ok (.iload_n 3, 1) := by decide +kernel
theorem dX5_offset_14 : decode cX5_offset 14 = .ok (.bipush (-3), 2) := by decide +kernel
theorem dX5_offset_16 : decode cX5_offset 16 = .ok (.iconst 3, 1) := by decide +kernel
theorem dX5_offset_17 : decode cX5_offset 17 = .ok (.invokestatic 49, 3) := by decide +kernel
theorem dX5_offset_20 : decode cX5_offset 20 = .ok (.aload 4, 2) := by decide +kernel
theorem dX5_offset_22 : decode cX5_offset 22 = .ok (.getfield 163, 3) := by decide +kernel
theorem dX5_offset_25 : decode cX5_offset 25 = .ok (.iload_n 2, 1) := by decide +kernel
theorem dX5_offset_26 : decode cX5_offset 26 = .ok (.iaload, 1) := by decide +kernel
theorem dX5_offset_27 : decode cX5_offset 27 = .ok (.istore 5, 2) := by decide +kernel
theorem dX5_offset_29 : decode cX5_offset 29 = .ok (.aload 4, 2) := by decide +kernel
theorem dX5_offset_31 : decode cX5_offset 31 = .ok (.getfield 163, 3) := by decide +kernel
theorem dX5_offset_34 : decode cX5_offset 34 = .ok (.iload_n 2, 1) := by decide +kernel
theorem dX5_offset_35 : decode cX5_offset 35 = .ok (.iload_n 3, 1) := by decide +kernel
theorem dX5_offset_36 : decode cX5_offset 36 = .ok (.iastore, 1) := by decide +kernel
theorem dX5_offset_37 : decode cX5_offset 37 = .ok (.iload 5, 2) := by decide +kernel
theorem dX5_offset_39 : decode cX5_offset 39 = .ok (.ireturn, 1) := by decide +kernel
set_option maxRecDepth 20000 in
theorem ggX5_calibrate_X5_tileAt : GoodIn wsX5_calibrate wsX5_tileAt := goodIn_ca (goodIn_r _ [6, 7, 8, 9, 22, 23, 24, 25, 26, 27] (by decide +kernel) (by decide +kernel)) (goodIn_sub (fun _ h => List.mem_cons_of_mem _ (List.mem_append_right _ h)) (by decide +kernel))
set_option maxRecDepth 20000 in
theorem gX5_calibrate_X5_tileAt : GoodIn wsX5_calibrate (wsV RX5 102 RX5 yX5_tileAt wsX5_tileAt) := goodIn_app (goodIn_of _ (by decide +kernel)) ggX5_calibrate_X5_tileAt
theorem dX5_calibrate_0 : decode cX5_calibrate 0 = .ok (.aload_n 0, 1) := by decide +kernel
theorem dX5_calibrate_1 : decode cX5_calibrate 1 = .ok (.iload_n 1, 1) := by decide +kernel
theorem dX5_calibrate_2 : decode cX5_calibrate 2 = .ok (.invokevirtual 102, 3) := by decide +kernel
theorem dX5_calibrate_5 : decode cX5_calibrate 5 = .ok (.astore_n 3, 1) := by decide +kernel
theorem dX5_calibrate_6 : decode cX5_calibrate 6 = .ok (.aload_n 3, 1) := by decide +kernel
theorem dX5_calibrate_7 : decode cX5_calibrate 7 = .ok (.getfield 167, 3) := by decide +kernel
theorem dX5_calibrate_10 : decode cX5_calibrate 10 = .ok (.istore 4, 2) := by decide +kernel
theorem dX5_calibrate_12 : decode cX5_calibrate 12 = .ok (.aload_n 3, 1) := by decide +kernel
theorem dX5_calibrate_13 : decode cX5_calibrate 13 = .ok (.iload_n 2, 1) := by decide +kernel
theorem dX5_calibrate_14 : decode cX5_calibrate 14 = .ok (.putfield 167, 3) := by decide +kernel
theorem dX5_calibrate_17 : decode cX5_calibrate 17 = .ok (.iload 4, 2) := by decide +kernel
theorem dX5_calibrate_19 : decode cX5_calibrate 19 = .ok (.ireturn, 1) := by decide +kernel
set_option maxRecDepth 20000 in
theorem ggX5_converters_X5_tileAt : GoodIn wsX5_converters wsX5_tileAt := goodIn_ca (goodIn_r _ [8, 9, 10, 11, 34, 35, 36, 37, 38, 39] (by decide +kernel) (by decide +kernel)) (goodIn_sub (fun _ h => List.mem_cons_of_mem _ (List.mem_append_right _ h)) (by decide +kernel))
set_option maxRecDepth 20000 in
theorem gX5_converters_X5_tileAt : GoodIn wsX5_converters (wsV RX5 102 RX5 yX5_tileAt wsX5_tileAt) := goodIn_app (goodIn_of _ (by decide +kernel)) ggX5_converters_X5_tileAt
set_option maxRecDepth 20000 in
theorem ggX5_converters_X5_checkArgument : GoodIn wsX5_converters wsX5_checkArgument := goodIn_ca (goodIn_r _ [14, 1, 2] (by decide +kernel) (by decide +kernel)) (goodIn_sub (fun _ h => List.mem_cons_of_mem _ (List.mem_append_left _ (List.mem_append_right _ h))) (by decide +kernel))
set_option maxRecDepth 20000 in
theorem gX5_converters_X5_checkArgument : GoodIn wsX5_converters (va_wsS RX5 49 yX5_checkArgument wsX5_checkArgument) := goodIn_app (goodIn_of _ (by decide +kernel)) ggX5_converters_X5_checkArgument
set_option maxRecDepth 20000 in
theorem ggX5_converters_J6_bitCount_0f7a4 : GoodIn wsX5_converters wsJ6_bitCount_0f7a4 := goodIn_r _ [18, 19, 20, 21] (by decide +kernel) (by decide +kernel)
set_option maxRecDepth 20000 in
theorem gX5_converters_J6_bitCount_0f7a4 : GoodIn wsX5_converters (va_wsS RX5 170 yJ6_bitCount_0f7a4 wsJ6_bitCount_0f7a4) := goodIn_app (goodIn_of _ (by decide +kernel)) ggX5_converters_J6_bitCount_0f7a4
theorem dX5_converters_0 : decode cX5_converters 0 = .ok (.aload_n 0, 1) := by decide +kernel
theorem dX5_converters_1 : decode cX5_converters 1 = .ok (.iload_n 1, 1) := by decide +kernel
theorem dX5_converters_2 : decode cX5_converters 2 = .ok (.invokevirtual 102, 3) := by decide +kernel
theorem dX5_converters_5 : decode cX5_converters 5 = .ok (.astore_n 3, 1) := by decide +kernel
theorem dX5_converters_6 : decode cX5_converters 6 = .ok (.iload_n 2, 1) := by decide +kernel
theorem dX5_converters_7 : decode cX5_converters 7 = .ok (.iconst 1, 1) := by decide +kernel
theorem dX5_converters_8 : decode cX5_converters 8 = .ok (.bipush 16, 2) := by decide +kernel
theorem dX5_converters_10 : decode cX5_converters 10 = .ok (.invokestatic 49, 3) := by decide +kernel
theorem dX5_converters_13 : decode cX5_converters 13 = .ok (.iload_n 2, 1) := by decide +kernel
theorem dX5_converters_14 : decode cX5_converters 14 = .ok (.invokestatic 170, 3) := by decide +kernel
theorem dX5_converters_17 : decode cX5_converters 17 = .ok (.iconst 1, 1) := by decide +kernel
theorem dX5_converters_18 : decode cX5_converters 18 = .ok (.if_icmp .eq 13, 3) := by decide +kernel
theorem dX5_converters_21 : decode cX5_converters 21 = .ok (.new 90, 3) := by decide +kernel
theorem dX5_converters_24 : decode cX5_converters 24 = .ok (.dup, 1) := by decide +kernel
theorem dX5_converters_25 : decode cX5_converters 25 = .ok (.ldc 175, 2) := by decide +kernel
theorem dX5_converters_27 : decode cX5_converters 27 = .ok (.invokespecial 94, 3) := by decide +kernel
theorem dX5_converters_30 : decode cX5_converters 30 = .ok (.athrow, 1) := by decide +kernel
theorem dX5_converters_31 : decode cX5_converters 31 = .ok (.aload_n 3, 1) := by decide +kernel
theorem dX5_converters_32 : decode cX5_converters 32 = .ok (.getfield 177, 3) := by decide +kernel
theorem dX5_converters_35 : decode cX5_converters 35 = .ok (.istore 4, 2) := by decide +kernel
theorem dX5_converters_37 : decode cX5_converters 37 = .ok (.aload_n 3, 1) := by decide +kernel
theorem dX5_converters_38 : decode cX5_converters 38 = .ok (.iload_n 2, 1) := by decide +kernel
theorem dX5_converters_39 : decode cX5_converters 39 = .ok (.putfield 177, 3) := by decide +kernel
theorem dX5_converters_42 : decode cX5_converters 42 = .ok (.iload 4, 2) := by decide +kernel
theorem dX5_converters_44 : decode cX5_converters 44 = .ok (.ireturn, 1) := by decide +kernel
set_option maxRecDepth 20000 in
theorem ggX5_cell_X5_tileAt : GoodIn wsX5_cell wsX5_tileAt := goodIn_ca (goodIn_r _ [10, 11, 12, 13, 48, 49, 50, 51, 52, 53] (by decide +kernel) (by decide +kernel)) (goodIn_sub (fun _ h => List.mem_cons_of_mem _ (List.mem_append_right _ h)) (by decide +kernel))
set_option maxRecDepth 20000 in
theorem gX5_cell_X5_tileAt : GoodIn wsX5_cell (wsV RX5 102 RX5 yX5_tileAt wsX5_tileAt) := goodIn_app (goodIn_of _ (by decide +kernel)) ggX5_cell_X5_tileAt
set_option maxRecDepth 20000 in
theorem ggX5_cell_X5_checkIndex : GoodIn wsX5_cell wsX5_checkIndex := goodIn_ca (goodIn_r _ [16, 11, 12] (by decide +kernel) (by decide +kernel)) (goodIn_sub (fun _ h => List.mem_cons_of_mem _ (List.mem_append_right _ h)) (by decide +kernel))
set_option maxRecDepth 20000 in
theorem gX5_cell_X5_checkIndex : GoodIn wsX5_cell (va_wsS RX5 69 yX5_checkIndex wsX5_checkIndex) := goodIn_app (goodIn_of _ (by decide +kernel)) ggX5_cell_X5_checkIndex
set_option maxRecDepth 20000 in
theorem ggX5_cell_X5_indexOf : GoodIn wsX5_cell wsX5_indexOf := goodIn_r _ [19] (by decide +kernel) (by decide +kernel)
set_option maxRecDepth 20000 in
theorem gX5_cell_X5_indexOf : GoodIn wsX5_cell (va_wsS RX5 180 yX5_indexOf wsX5_indexOf) := goodIn_app (goodIn_of _ (by decide +kernel)) ggX5_cell_X5_indexOf
set_option maxRecDepth 20000 in
theorem ggX5_cell_X4_conducted : GoodIn wsX5_cell wsX4_conducted := goodIn_r _ [24, 25, 26, 27, 28, 29, 30, 31, 32, 33, 18, 9, 19, 34, 35, 54, 55, 56, 36, 37, 38, 39, 40, 41, 42, 43, 44, 45, 46, 47] (by decide +kernel) (by decide +kernel)
set_option maxRecDepth 20000 in
theorem gX5_cell_X4_conducted : GoodIn wsX5_cell (wsV RX5 186 RX4 yX4_conducted wsX4_conducted) := goodIn_app (goodIn_of _ (by decide +kernel)) ggX5_cell_X4_conducted
theorem dX5_cell_0 : decode cX5_cell 0 = .ok (.aload_n 0, 1) := by decide +kernel
theorem dX5_cell_1 : decode cX5_cell 1 = .ok (.iload_n 1, 1) := by decide +kernel
theorem dX5_cell_2 : decode cX5_cell 2 = .ok (.invokevirtual 102, 3) := by decide +kernel
theorem dX5_cell_5 : decode cX5_cell 5 = .ok (.astore 5, 2) := by decide +kernel
theorem dX5_cell_7 : decode cX5_cell 7 = .ok (.iload_n 2, 1) := by decide +kernel
theorem dX5_cell_8 : decode cX5_cell 8 = .ok (.bipush 8, 2) := by decide +kernel
theorem dX5_cell_10 : decode cX5_cell 10 = .ok (.invokestatic 69, 3) := by decide +kernel
theorem dX5_cell_13 : decode cX5_cell 13 = .ok (.iload_n 3, 1) := by decide +kernel
theorem dX5_cell_14 : decode cX5_cell 14 = .ok (.bipush 16, 2) := by decide +kernel
theorem dX5_cell_16 : decode cX5_cell 16 = .ok (.invokestatic 69, 3) := by decide +kernel
theorem dX5_cell_19 : decode cX5_cell 19 = .ok (.iload 4, 2) := by decide +kernel
theorem dX5_cell_21 : decode cX5_cell 21 = .ok (.iconst 5, 1) := by decide +kernel
theorem dX5_cell_22 : decode cX5_cell 22 = .ok (.invokestatic 69, 3) := by decide +kernel
theorem dX5_cell_25 : decode cX5_cell 25 = .ok (.iload_n 2, 1) := by decide +kernel
theorem dX5_cell_26 : decode cX5_cell 26 = .ok (.iload_n 3, 1) := by decide +kernel
theorem dX5_cell_27 : decode cX5_cell 27 = .ok (.invokestatic 180, 3) := by decide +kernel
theorem dX5_cell_30 : decode cX5_cell 30 = .ok (.istore 6, 2) := by decide +kernel
theorem dX5_cell_32 : decode cX5_cell 32 = .ok (.iload 4, 2) := by decide +kernel
theorem dX5_cell_34 : decode cX5_cell 34 = .ok (.tableswitch 77 0 3 #[30, 39, 51, 60], 30) := by decide +kernel
theorem dX5_cell_64 : decode cX5_cell 64 = .ok (.aload 5, 2) := by decide +kernel
theorem dX5_cell_66 : decode cX5_cell 66 = .ok (.getfield 183, 3) := by decide +kernel
theorem dX5_cell_69 : decode cX5_cell 69 = .ok (.iload 6, 2) := by decide +kernel
theorem dX5_cell_71 : decode cX5_cell 71 = .ok (.iaload, 1) := by decide +kernel
theorem dX5_cell_72 : decode cX5_cell 72 = .ok (.ireturn, 1) := by decide +kernel
theorem dX5_cell_73 : decode cX5_cell 73 = .ok (.aload 5, 2) := by decide +kernel
theorem dX5_cell_75 : decode cX5_cell 75 = .ok (.iload_n 2, 1) := by decide +kernel
theorem dX5_cell_76 : decode cX5_cell 76 = .ok (.iload_n 3, 1) := by decide +kernel
theorem dX5_cell_77 : decode cX5_cell 77 = .ok (.aload_n 0, 1) := by decide +kernel
theorem dX5_cell_78 : decode cX5_cell 78 = .ok (.getfield 12, 3) := by decide +kernel
theorem dX5_cell_81 : decode cX5_cell 81 = .ok (.invokevirtual 186, 3) := by decide +kernel
theorem dX5_cell_84 : decode cX5_cell 84 = .ok (.ireturn, 1) := by decide +kernel
theorem dX5_cell_85 : decode cX5_cell 85 = .ok (.aload 5, 2) := by decide +kernel
theorem dX5_cell_87 : decode cX5_cell 87 = .ok (.getfield 190, 3) := by decide +kernel
theorem dX5_cell_90 : decode cX5_cell 90 = .ok (.iload 6, 2) := by decide +kernel
theorem dX5_cell_92 : decode cX5_cell 92 = .ok (.iaload, 1) := by decide +kernel
theorem dX5_cell_93 : decode cX5_cell 93 = .ok (.ireturn, 1) := by decide +kernel
theorem dX5_cell_94 : decode cX5_cell 94 = .ok (.aload 5, 2) := by decide +kernel
theorem dX5_cell_96 : decode cX5_cell 96 = .ok (.getfield 193, 3) := by decide +kernel
theorem dX5_cell_99 : decode cX5_cell 99 = .ok (.iload 6, 2) := by decide +kernel
theorem dX5_cell_101 : decode cX5_cell 101 = .ok (.baload, 1) := by decide +kernel
theorem dX5_cell_102 : decode cX5_cell 102 = .ok (.ifCond .eq 7, 3) := by decide +kernel
theorem dX5_cell_105 : decode cX5_cell 105 = .ok (.iconst 1, 1) := by decide +kernel
theorem dX5_cell_106 : decode cX5_cell 106 = .ok (.goto 4, 3) := by decide +kernel
theorem dX5_cell_109 : decode cX5_cell 109 = .ok (.iconst 0, 1) := by decide +kernel
theorem dX5_cell_110 : decode cX5_cell 110 = .ok (.ireturn, 1) := by decide +kernel
theorem dX5_cell_111 : decode cX5_cell 111 = .ok (.aload 5, 2) := by decide +kernel
theorem dX5_cell_113 : decode cX5_cell 113 = .ok (.getfield 197, 3) := by decide +kernel
theorem dX5_cell_116 : decode cX5_cell 116 = .ok (.iload 6, 2) := by decide +kernel
theorem dX5_cell_118 : decode cX5_cell 118 = .ok (.baload, 1) := by decide +kernel
theorem dX5_cell_119 : decode cX5_cell 119 = .ok (.ifCond .eq 7, 3) := by decide +kernel
theorem dX5_cell_122 : decode cX5_cell 122 = .ok (.iconst 1, 1) := by decide +kernel
theorem dX5_cell_123 : decode cX5_cell 123 = .ok (.goto 4, 3) := by decide +kernel
theorem dX5_cell_126 : decode cX5_cell 126 = .ok (.iconst 0, 1) := by decide +kernel
theorem dX5_cell_127 : decode cX5_cell 127 = .ok (.ireturn, 1) := by decide +kernel
set_option maxRecDepth 20000 in
theorem ggX5_rowOf_X5_layerAt : GoodIn wsX5_rowOf wsX5_layerAt := goodIn_ca (goodIn_r _ [8, 9, 10, 11, 23, 24, 25, 26, 27, 28] (by decide +kernel) (by decide +kernel)) (goodIn_sub (fun _ h => List.mem_cons_of_mem _ (List.mem_append_right _ h)) (by decide +kernel))
set_option maxRecDepth 20000 in
theorem gX5_rowOf_X5_layerAt : GoodIn wsX5_rowOf (wsV RX5 62 RX5 yX5_layerAt wsX5_layerAt) := goodIn_app (goodIn_of _ (by decide +kernel)) ggX5_rowOf_X5_layerAt
set_option maxRecDepth 20000 in
theorem ggX5_rowOf_X5_checkIndex : GoodIn wsX5_rowOf wsX5_checkIndex := goodIn_ca (goodIn_r _ [14, 9, 10] (by decide +kernel) (by decide +kernel)) (goodIn_sub (fun _ h => List.mem_cons_of_mem _ (List.mem_append_right _ h)) (by decide +kernel))
set_option maxRecDepth 20000 in
theorem gX5_rowOf_X5_checkIndex : GoodIn wsX5_rowOf (va_wsS RX5 69 yX5_checkIndex wsX5_checkIndex) := goodIn_app (goodIn_of _ (by decide +kernel)) ggX5_rowOf_X5_checkIndex
theorem dX5_rowOf_0 : decode cX5_rowOf 0 = .ok (.aload_n 0, 1) := by decide +kernel
theorem dX5_rowOf_1 : decode cX5_rowOf 1 = .ok (.iload_n 1, 1) := by decide +kernel
theorem dX5_rowOf_2 : decode cX5_rowOf 2 = .ok (.invokevirtual 62, 3) := by decide +kernel
theorem dX5_rowOf_5 : decode cX5_rowOf 5 = .ok (.astore_n 3, 1) := by decide +kernel
theorem dX5_rowOf_6 : decode cX5_rowOf 6 = .ok (.iload_n 2, 1) := by decide +kernel
theorem dX5_rowOf_7 : decode cX5_rowOf 7 = .ok (.aload_n 3, 1) := by decide +kernel
theorem dX5_rowOf_8 : decode cX5_rowOf 8 = .ok (.getfield 66, 3) := by decide +kernel
theorem dX5_rowOf_11 : decode cX5_rowOf 11 = .ok (.invokestatic 69, 3) := by decide +kernel
theorem dX5_rowOf_14 : decode cX5_rowOf 14 = .ok (.aload_n 3, 1) := by decide +kernel
theorem dX5_rowOf_15 : decode cX5_rowOf 15 = .ok (.getfield 106, 3) := by decide +kernel
theorem dX5_rowOf_18 : decode cX5_rowOf 18 = .ok (.ifnonnull 7, 3) := by decide +kernel
theorem dX5_rowOf_21 : decode cX5_rowOf 21 = .ok (.iconst (-1), 1) := by decide +kernel
theorem dX5_rowOf_22 : decode cX5_rowOf 22 = .ok (.goto 9, 3) := by decide +kernel
theorem dX5_rowOf_25 : decode cX5_rowOf 25 = .ok (.aload_n 3, 1) := by decide +kernel
theorem dX5_rowOf_26 : decode cX5_rowOf 26 = .ok (.getfield 200, 3) := by decide +kernel
theorem dX5_rowOf_29 : decode cX5_rowOf 29 = .ok (.iload_n 2, 1) := by decide +kernel
theorem dX5_rowOf_30 : decode cX5_rowOf 30 = .ok (.iaload, 1) := by decide +kernel
theorem dX5_rowOf_31 : decode cX5_rowOf 31 = .ok (.ireturn, 1) := by decide +kernel
set_option maxRecDepth 20000 in
theorem ggX5_tileOf_X5_layerAt : GoodIn wsX5_tileOf wsX5_layerAt := goodIn_ca (goodIn_r _ [7, 8, 9, 10, 31, 32, 33, 34, 35, 36] (by decide +kernel) (by decide +kernel)) (goodIn_sub (fun _ h => List.mem_cons_of_mem _ (List.mem_append_right _ h)) (by decide +kernel))
set_option maxRecDepth 20000 in
theorem gX5_tileOf_X5_layerAt : GoodIn wsX5_tileOf (wsV RX5 62 RX5 yX5_layerAt wsX5_layerAt) := goodIn_app (goodIn_of _ (by decide +kernel)) ggX5_tileOf_X5_layerAt
theorem dX5_tileOf_0 : decode cX5_tileOf 0 = .ok (.aload_n 0, 1) := by decide +kernel
theorem dX5_tileOf_1 : decode cX5_tileOf 1 = .ok (.iload_n 1, 1) := by decide +kernel
theorem dX5_tileOf_2 : decode cX5_tileOf 2 = .ok (.invokevirtual 62, 3) := by decide +kernel
theorem dX5_tileOf_5 : decode cX5_tileOf 5 = .ok (.astore_n 2, 1) := by decide +kernel
theorem dX5_tileOf_6 : decode cX5_tileOf 6 = .ok (.aload_n 2, 1) := by decide +kernel
theorem dX5_tileOf_7 : decode cX5_tileOf 7 = .ok (.getfield 106, 3) := by decide +kernel
theorem dX5_tileOf_10 : decode cX5_tileOf 10 = .ok (.ifnonnull 7, 3) := by decide +kernel
theorem dX5_tileOf_13 : decode cX5_tileOf 13 = .ok (.iconst (-1), 1) := by decide +kernel
theorem dX5_tileOf_14 : decode cX5_tileOf 14 = .ok (.goto 10, 3) := by decide +kernel
theorem dX5_tileOf_17 : decode cX5_tileOf 17 = .ok (.aload_n 2, 1) := by decide +kernel
theorem dX5_tileOf_18 : decode cX5_tileOf 18 = .ok (.getfield 106, 3) := by decide +kernel
theorem dX5_tileOf_21 : decode cX5_tileOf 21 = .ok (.getfield 132, 3) := by decide +kernel
theorem dX5_tileOf_24 : decode cX5_tileOf 24 = .ok (.ireturn, 1) := by decide +kernel
set_option maxRecDepth 20000 in
theorem ggX5_misfits_X5_layerAt : GoodIn wsX5_misfits wsX5_layerAt := goodIn_ca (goodIn_r _ [7, 8, 9, 10, 75, 76, 77, 78, 79, 80] (by decide +kernel) (by decide +kernel)) (goodIn_sub (fun _ h => List.mem_cons_of_mem _ (List.mem_append_right _ h)) (by decide +kernel))
set_option maxRecDepth 20000 in
theorem gX5_misfits_X5_layerAt : GoodIn wsX5_misfits (wsV RX5 62 RX5 yX5_layerAt wsX5_layerAt) := goodIn_app (goodIn_of _ (by decide +kernel)) ggX5_misfits_X5_layerAt
set_option maxRecDepth 20000 in
theorem ggX5_misfits_X5_tileAt : GoodIn wsX5_misfits wsX5_tileAt := goodIn_ca (goodIn_r _ [14, 8, 9, 15, 75, 76, 77, 78, 79, 80] (by decide +kernel) (by decide +kernel)) (goodIn_sub (fun _ h => List.mem_cons_of_mem _ (List.mem_append_right _ h)) (by decide +kernel))
set_option maxRecDepth 20000 in
theorem gX5_misfits_X5_tileAt : GoodIn wsX5_misfits (wsV RX5 102 RX5 yX5_tileAt wsX5_tileAt) := goodIn_app (goodIn_of _ (by decide +kernel)) ggX5_misfits_X5_tileAt
set_option maxRecDepth 20000 in
theorem ggX5_misfits_X2_weigh : GoodIn wsX5_misfits wsX2_weigh := goodIn_r _ [20, 21, 22, 23, 24, 25, 26, 27, 28, 29, 30, 31, 32, 33, 34, 35, 36, 37, 38, 39, 40, 41, 42, 43, 44, 45, 46, 47, 48, 49, 6, 50, 81, 82, 83, 84, 85, 86, 87, 88, 89, 90, 91, 92, 93, 94, 95, 96, 97, 98, 99, 100, 101, 102] (by decide +kernel) (by decide +kernel)
set_option maxRecDepth 20000 in
theorem gX5_misfits_X2_weigh : GoodIn wsX5_misfits (wsV RX5 116 RX2 yX2_weigh wsX2_weigh) := goodIn_app (goodIn_of _ (by decide +kernel)) ggX5_misfits_X2_weigh
set_option maxRecDepth 20000 in
theorem ggX5_misfits_X2_fewestMisfits : GoodIn wsX5_misfits wsX2_fewestMisfits := goodIn_r _ [54, 55, 56, 57, 58, 59, 60, 61, 62, 63, 64, 65, 19, 66, 67, 68, 69, 70, 71, 72, 73, 74, 22, 89, 90] (by decide +kernel) (by decide +kernel)
set_option maxRecDepth 20000 in
theorem gX5_misfits_X2_fewestMisfits : GoodIn wsX5_misfits (wsV RX5 203 RX2 yX2_fewestMisfits wsX2_fewestMisfits) := goodIn_app (goodIn_of _ (by decide +kernel)) ggX5_misfits_X2_fewestMisfits
theorem dX5_misfits_0 : decode cX5_misfits 0 = .ok (.aload_n 0, 1) := by decide +kernel
theorem dX5_misfits_1 : decode cX5_misfits 1 = .ok (.iload_n 1, 1) := by decide +kernel
theorem dX5_misfits_2 : decode cX5_misfits 2 = .ok (.invokevirtual 62, 3) := by decide +kernel
theorem dX5_misfits_5 : decode cX5_misfits 5 = .ok (.astore_n 3, 1) := by decide +kernel
theorem dX5_misfits_6 : decode cX5_misfits 6 = .ok (.aload_n 0, 1) := by decide +kernel
theorem dX5_misfits_7 : decode cX5_misfits 7 = .ok (.getfield 31, 3) := by decide +kernel
theorem dX5_misfits_10 : decode cX5_misfits 10 = .ok (.aload_n 3, 1) := by decide +kernel
theorem dX5_misfits_11 : decode cX5_misfits 11 = .ok (.aload_n 0, 1) := by decide +kernel
theorem dX5_misfits_12 : decode cX5_misfits 12 = .ok (.iload_n 2, 1) := by decide +kernel
theorem dX5_misfits_13 : decode cX5_misfits 13 = .ok (.invokevirtual 102, 3) := by decide +kernel
theorem dX5_misfits_16 : decode cX5_misfits 16 = .ok (.invokevirtual 116, 3) := by decide +kernel
theorem dX5_misfits_19 : decode cX5_misfits 19 = .ok (.aload_n 0, 1) := by decide +kernel
theorem dX5_misfits_20 : decode cX5_misfits 20 = .ok (.getfield 31, 3) := by decide +kernel
theorem dX5_misfits_23 : decode cX5_misfits 23 = .ok (.aload_n 3, 1) := by decide +kernel
theorem dX5_misfits_24 : decode cX5_misfits 24 = .ok (.getfield 66, 3) := by decide +kernel
theorem dX5_misfits_27 : decode cX5_misfits 27 = .ok (.invokevirtual 203, 3) := by decide +kernel
theorem dX5_misfits_30 : decode cX5_misfits 30 = .ok (.ireturn, 1) := by decide +kernel
set_option maxRecDepth 20000 in
theorem ggX5_misfitsAnew_X5_layerAt : GoodIn wsX5_misfitsAnew wsX5_layerAt := goodIn_ca (goodIn_r _ [9, 10, 11, 12, 73, 74, 75, 76, 77, 78] (by decide +kernel) (by decide +kernel)) (goodIn_sub (fun _ h => List.mem_cons_of_mem _ (List.mem_append_right _ h)) (by decide +kernel))
set_option maxRecDepth 20000 in
theorem gX5_misfitsAnew_X5_layerAt : GoodIn wsX5_misfitsAnew (wsV RX5 62 RX5 yX5_layerAt wsX5_layerAt) := goodIn_app (goodIn_of _ (by decide +kernel)) ggX5_misfitsAnew_X5_layerAt
set_option maxRecDepth 20000 in
theorem ggX5_misfitsAnew_X5_tileAt : GoodIn wsX5_misfitsAnew wsX5_tileAt := goodIn_ca (goodIn_r _ [16, 10, 11, 17, 73, 74, 75, 76, 77, 78] (by decide +kernel) (by decide +kernel)) (goodIn_sub (fun _ h => List.mem_cons_of_mem _ (List.mem_append_right _ h)) (by decide +kernel))
set_option maxRecDepth 20000 in
theorem gX5_misfitsAnew_X5_tileAt : GoodIn wsX5_misfitsAnew (wsV RX5 102 RX5 yX5_tileAt wsX5_tileAt) := goodIn_app (goodIn_of _ (by decide +kernel)) ggX5_misfitsAnew_X5_tileAt
set_option maxRecDepth 20000 in
theorem ggX5_misfitsAnew_X2_weigh : GoodIn wsX5_misfitsAnew wsX2_weigh := goodIn_r _ [22, 23, 24, 25, 26, 27, 28, 29, 30, 31, 32, 33, 34, 35, 36, 37, 38, 39, 40, 41, 42, 43, 44, 45, 46, 47, 48, 49, 50, 51, 8, 52, 65, 66, 67, 68, 69, 70, 71, 72, 79, 80, 81, 82, 83, 84, 85, 86, 87, 88, 89, 90, 91, 92] (by decide +kernel) (by decide +kernel)
set_option maxRecDepth 20000 in
theorem gX5_misfitsAnew_X2_weigh : GoodIn wsX5_misfitsAnew (wsV RX5 116 RX2 yX2_weigh wsX2_weigh) := goodIn_app (goodIn_of _ (by decide +kernel)) ggX5_misfitsAnew_X2_weigh
set_option maxRecDepth 20000 in
theorem ggX5_misfitsAnew_X2_fewestOfAllWays : GoodIn wsX5_misfitsAnew wsX2_fewestOfAllWays := goodIn_r _ [56, 57, 58, 59, 60, 61, 62, 63, 21, 64, 24, 79, 80] (by decide +kernel) (by decide +kernel)
set_option maxRecDepth 20000 in
theorem gX5_misfitsAnew_X2_fewestOfAllWays : GoodIn wsX5_misfitsAnew (wsV RX5 208 RX2 yX2_fewestOfAllWays wsX2_fewestOfAllWays) := goodIn_app (goodIn_of _ (by decide +kernel)) ggX5_misfitsAnew_X2_fewestOfAllWays
theorem dX5_misfitsAnew_0 : decode cX5_misfitsAnew 0 = .ok (.aload_n 0, 1) := by decide +kernel
theorem dX5_misfitsAnew_1 : decode cX5_misfitsAnew 1 = .ok (.iload_n 1, 1) := by decide +kernel
theorem dX5_misfitsAnew_2 : decode cX5_misfitsAnew 2 = .ok (.invokevirtual 62, 3) := by decide +kernel
theorem dX5_misfitsAnew_5 : decode cX5_misfitsAnew 5 = .ok (.astore_n 3, 1) := by decide +kernel
theorem dX5_misfitsAnew_6 : decode cX5_misfitsAnew 6 = .ok (.aload_n 0, 1) := by decide +kernel
theorem dX5_misfitsAnew_7 : decode cX5_misfitsAnew 7 = .ok (.iload_n 2, 1) := by decide +kernel
theorem dX5_misfitsAnew_8 : decode cX5_misfitsAnew 8 = .ok (.invokevirtual 102, 3) := by decide +kernel
theorem dX5_misfitsAnew_11 : decode cX5_misfitsAnew 11 = .ok (.astore 4, 2) := by decide +kernel
theorem dX5_misfitsAnew_13 : decode cX5_misfitsAnew 13 = .ok (.aload_n 3, 1) := by decide +kernel
theorem dX5_misfitsAnew_14 : decode cX5_misfitsAnew 14 = .ok (.getfield 66, 3) := by decide +kernel
theorem dX5_misfitsAnew_17 : decode cX5_misfitsAnew 17 = .ok (.iconst 4, 1) := by decide +kernel
theorem dX5_misfitsAnew_18 : decode cX5_misfitsAnew 18 = .ok (.if_icmp .le 13, 3) := by decide +kernel
theorem dX5_misfitsAnew_21 : decode cX5_misfitsAnew 21 = .ok (.new 53, 3) := by decide +kernel
theorem dX5_misfitsAnew_24 : decode cX5_misfitsAnew 24 = .ok (.dup, 1) := by decide +kernel
theorem dX5_misfitsAnew_25 : decode cX5_misfitsAnew 25 = .ok (.ldc 206, 2) := by decide +kernel
theorem dX5_misfitsAnew_27 : decode cX5_misfitsAnew 27 = .ok (.invokespecial 57, 3) := by decide +kernel
theorem dX5_misfitsAnew_30 : decode cX5_misfitsAnew 30 = .ok (.athrow, 1) := by decide +kernel
theorem dX5_misfitsAnew_31 : decode cX5_misfitsAnew 31 = .ok (.aload_n 0, 1) := by decide +kernel
theorem dX5_misfitsAnew_32 : decode cX5_misfitsAnew 32 = .ok (.getfield 31, 3) := by decide +kernel
theorem dX5_misfitsAnew_35 : decode cX5_misfitsAnew 35 = .ok (.aload_n 3, 1) := by decide +kernel
theorem dX5_misfitsAnew_36 : decode cX5_misfitsAnew 36 = .ok (.aload 4, 2) := by decide +kernel
theorem dX5_misfitsAnew_38 : decode cX5_misfitsAnew 38 = .ok (.invokevirtual 116, 3) := by decide +kernel
theorem dX5_misfitsAnew_41 : decode cX5_misfitsAnew 41 = .ok (.aload_n 0, 1) := by decide +kernel
theorem dX5_misfitsAnew_42 : decode cX5_misfitsAnew 42 = .ok (.getfield 31, 3) := by decide +kernel
theorem dX5_misfitsAnew_45 : decode cX5_misfitsAnew 45 = .ok (.aload_n 3, 1) := by decide +kernel
theorem dX5_misfitsAnew_46 : decode cX5_misfitsAnew 46 = .ok (.getfield 66, 3) := by decide +kernel
theorem dX5_misfitsAnew_49 : decode cX5_misfitsAnew 49 = .ok (.invokevirtual 208, 3) := by decide +kernel
theorem dX5_misfitsAnew_52 : decode cX5_misfitsAnew 52 = .ok (.ireturn, 1) := by decide +kernel
set_option maxRecDepth 20000 in
theorem ggX5_isTrue_X5_layerAt : GoodIn wsX5_isTrue wsX5_layerAt := goodIn_ca (goodIn_r _ [7, 8, 9, 10, 58, 59, 60, 61, 62, 63] (by decide +kernel) (by decide +kernel)) (goodIn_sub (fun _ h => List.mem_cons_of_mem _ (List.mem_append_right _ h)) (by decide +kernel))
set_option maxRecDepth 20000 in
theorem gX5_isTrue_X5_layerAt : GoodIn wsX5_isTrue (wsV RX5 62 RX5 yX5_layerAt wsX5_layerAt) := goodIn_app (goodIn_of _ (by decide +kernel)) ggX5_isTrue_X5_layerAt
set_option maxRecDepth 20000 in
theorem ggX5_isTrue_X0_conductsAsNeeded : GoodIn wsX5_isTrue wsX0_conductsAsNeeded := goodIn_r _ [15, 16, 17, 18, 19, 20, 14, 21, 22, 23, 24, 25, 26, 27, 28, 29, 30, 31, 32, 33, 34, 35, 36, 37, 6, 38, 39, 40, 41, 42, 43, 44, 45, 46, 47, 48, 49, 50, 51, 52, 53, 54, 55, 56, 57, 64, 65, 66, 67, 68, 69, 70, 71, 72, 73, 74, 75, 76, 77, 78] (by decide +kernel) (by decide +kernel)
set_option maxRecDepth 20000 in
theorem gX5_isTrue_X0_conductsAsNeeded : GoodIn wsX5_isTrue (wsV RX5 211 RX0 yX0_conductsAsNeeded wsX0_conductsAsNeeded) := goodIn_app (goodIn_of _ (by decide +kernel)) ggX5_isTrue_X0_conductsAsNeeded
theorem dX5_isTrue_0 : decode cX5_isTrue 0 = .ok (.aload_n 0, 1) := by decide +kernel
theorem dX5_isTrue_1 : decode cX5_isTrue 1 = .ok (.iload_n 1, 1) := by decide +kernel
theorem dX5_isTrue_2 : decode cX5_isTrue 2 = .ok (.invokevirtual 62, 3) := by decide +kernel
theorem dX5_isTrue_5 : decode cX5_isTrue 5 = .ok (.astore_n 2, 1) := by decide +kernel
theorem dX5_isTrue_6 : decode cX5_isTrue 6 = .ok (.aload_n 2, 1) := by decide +kernel
theorem dX5_isTrue_7 : decode cX5_isTrue 7 = .ok (.getfield 106, 3) := by decide +kernel
theorem dX5_isTrue_10 : decode cX5_isTrue 10 = .ok (.ifnull 22, 3) := by decide +kernel
theorem dX5_isTrue_13 : decode cX5_isTrue 13 = .ok (.aload_n 2, 1) := by decide +kernel
theorem dX5_isTrue_14 : decode cX5_isTrue 14 = .ok (.aload_n 2, 1) := by decide +kernel
theorem dX5_isTrue_15 : decode cX5_isTrue 15 = .ok (.getfield 106, 3) := by decide +kernel
theorem dX5_isTrue_18 : decode cX5_isTrue 18 = .ok (.aload_n 0, 1) := by decide +kernel
theorem dX5_isTrue_19 : decode cX5_isTrue 19 = .ok (.getfield 12, 3) := by decide +kernel
theorem dX5_isTrue_22 : decode cX5_isTrue 22 = .ok (.invokevirtual 211, 3) := by decide +kernel
theorem dX5_isTrue_25 : decode cX5_isTrue 25 = .ok (.ifCond .eq 7, 3) := by decide +kernel
theorem dX5_isTrue_28 : decode cX5_isTrue 28 = .ok (.iconst 1, 1) := by decide +kernel
theorem dX5_isTrue_29 : decode cX5_isTrue 29 = .ok (.goto 4, 3) := by decide +kernel
theorem dX5_isTrue_32 : decode cX5_isTrue 32 = .ok (.iconst 0, 1) := by decide +kernel
theorem dX5_isTrue_33 : decode cX5_isTrue 33 = .ok (.ireturn, 1) := by decide +kernel
set_option maxRecDepth 20000 in
theorem ggX5_answer_X5_layerAt : GoodIn wsX5_answer wsX5_layerAt := goodIn_ca (goodIn_r _ [7, 8, 9, 10, 70, 71, 72, 73, 74, 75] (by decide +kernel) (by decide +kernel)) (goodIn_sub (fun _ h => List.mem_cons_of_mem _ (List.mem_append_left _ (List.mem_append_right _ h))) (by decide +kernel))
set_option maxRecDepth 20000 in
theorem gX5_answer_X5_layerAt : GoodIn wsX5_answer (wsV RX5 62 RX5 yX5_layerAt wsX5_layerAt) := goodIn_app (goodIn_of _ (by decide +kernel)) ggX5_answer_X5_layerAt
set_option maxRecDepth 20000 in
theorem ggX5_answer_X5_checkIndex : GoodIn wsX5_answer wsX5_checkIndex := goodIn_ca (goodIn_r _ [13, 8, 9] (by decide +kernel) (by decide +kernel)) (goodIn_sub (fun _ h => List.mem_cons_of_mem _ (List.mem_append_left _ (List.mem_append_right _ h))) (by decide +kernel))
set_option maxRecDepth 20000 in
theorem gX5_answer_X5_checkIndex : GoodIn wsX5_answer (va_wsS RX5 69 yX5_checkIndex wsX5_checkIndex) := goodIn_app (goodIn_of _ (by decide +kernel)) ggX5_answer_X5_checkIndex
set_option maxRecDepth 20000 in
theorem ggX5_answer_X5_groundOf : GoodIn wsX5_answer wsX5_groundOf := goodIn_ca (goodIn_r _ [16, 17, 18, 19, 62, 63, 64, 65, 66, 67, 68, 69] (by decide +kernel) (by decide +kernel)) (goodIn_sub (fun _ h => List.mem_cons_of_mem _ (List.mem_append_right _ h)) (by decide +kernel))
set_option maxRecDepth 20000 in
theorem gX5_answer_X5_groundOf : GoodIn wsX5_answer (va_wsS RX5 128 yX5_groundOf wsX5_groundOf) := goodIn_app (goodIn_of _ (by decide +kernel)) ggX5_answer_X5_groundOf
set_option maxRecDepth 20000 in
theorem ggX5_answer_X0_answerOn : GoodIn wsX5_answer wsX0_answerOn := goodIn_r _ [24, 25, 26, 27, 23, 28, 29, 30, 31, 6, 32, 33, 34, 35, 36, 37, 38, 39, 40, 41, 42, 43, 44, 45, 46, 47, 48, 49, 50, 51, 52, 53, 54, 55, 56, 57, 58, 59, 60, 61, 62, 63, 64, 65, 66, 67, 68, 69, 76, 77, 78, 79, 80, 81, 82, 83, 84, 85, 86, 87, 88, 89, 90] (by decide +kernel) (by decide +kernel)
set_option maxRecDepth 20000 in
theorem gX5_answer_X0_answerOn : GoodIn wsX5_answer (wsV RX5 215 RX0 yX0_answerOn wsX0_answerOn) := goodIn_app (goodIn_of _ (by decide +kernel)) ggX5_answer_X0_answerOn
theorem dX5_answer_0 : decode cX5_answer 0 = .ok (.aload_n 0, 1) := by decide +kernel
theorem dX5_answer_1 : decode cX5_answer 1 = .ok (.iload_n 1, 1) := by decide +kernel
theorem dX5_answer_2 : decode cX5_answer 2 = .ok (.invokevirtual 62, 3) := by decide +kernel
theorem dX5_answer_5 : decode cX5_answer 5 = .ok (.astore 5, 2) := by decide +kernel
theorem dX5_answer_7 : decode cX5_answer 7 = .ok (.iload 4, 2) := by decide +kernel
theorem dX5_answer_9 : decode cX5_answer 9 = .ok (.aload 5, 2) := by decide +kernel
theorem dX5_answer_11 : decode cX5_answer 11 = .ok (.getfield 73, 3) := by decide +kernel
theorem dX5_answer_14 : decode cX5_answer 14 = .ok (.invokestatic 69, 3) := by decide +kernel
theorem dX5_answer_17 : decode cX5_answer 17 = .ok (.aload 5, 2) := by decide +kernel
theorem dX5_answer_19 : decode cX5_answer 19 = .ok (.aload 5, 2) := by decide +kernel
theorem dX5_answer_21 : decode cX5_answer 21 = .ok (.invokestatic 128, 3) := by decide +kernel
theorem dX5_answer_24 : decode cX5_answer 24 = .ok (.lload_n 2, 1) := by decide +kernel
theorem dX5_answer_25 : decode cX5_answer 25 = .ok (.iload 4, 2) := by decide +kernel
theorem dX5_answer_27 : decode cX5_answer 27 = .ok (.aload_n 0, 1) := by decide +kernel
theorem dX5_answer_28 : decode cX5_answer 28 = .ok (.getfield 12, 3) := by decide +kernel
theorem dX5_answer_31 : decode cX5_answer 31 = .ok (.invokevirtual 215, 3) := by decide +kernel
theorem dX5_answer_34 : decode cX5_answer 34 = .ok (.ireturn, 1) := by decide +kernel
set_option maxRecDepth 20000 in
theorem ggX5_ideal_X5_layerAt : GoodIn wsX5_ideal wsX5_layerAt := goodIn_ca (goodIn_r _ [6, 7, 8, 9, 34, 35, 36, 37, 38, 39] (by decide +kernel) (by decide +kernel)) (goodIn_sub (fun _ h => List.mem_cons_of_mem _ (List.mem_append_right _ h)) (by decide +kernel))
set_option maxRecDepth 20000 in
theorem gX5_ideal_X5_layerAt : GoodIn wsX5_ideal (wsV RX5 62 RX5 yX5_layerAt wsX5_layerAt) := goodIn_app (goodIn_of _ (by decide +kernel)) ggX5_ideal_X5_layerAt
set_option maxRecDepth 20000 in
theorem ggX5_ideal_X5_checkIndex : GoodIn wsX5_ideal wsX5_checkIndex := goodIn_ca (goodIn_r _ [12, 7, 8] (by decide +kernel) (by decide +kernel)) (goodIn_sub (fun _ h => List.mem_cons_of_mem _ (List.mem_append_right _ h)) (by decide +kernel))
set_option maxRecDepth 20000 in
theorem gX5_ideal_X5_checkIndex : GoodIn wsX5_ideal (va_wsS RX5 69 yX5_checkIndex wsX5_checkIndex) := goodIn_app (goodIn_of _ (by decide +kernel)) ggX5_ideal_X5_checkIndex
set_option maxRecDepth 20000 in
theorem ggX5_ideal_X0_idealAnswer : GoodIn wsX5_ideal wsX0_idealAnswer := goodIn_r _ [17, 18, 19, 20, 21, 16, 22, 23, 24, 5, 25, 26, 27, 28, 29, 30, 31, 32, 33] (by decide +kernel) (by decide +kernel)
set_option maxRecDepth 20000 in
theorem gX5_ideal_X0_idealAnswer : GoodIn wsX5_ideal (wsV RX5 219 RX0 yX0_idealAnswer wsX0_idealAnswer) := goodIn_app (goodIn_of _ (by decide +kernel)) ggX5_ideal_X0_idealAnswer
theorem dX5_ideal_0 : decode cX5_ideal 0 = .ok (.aload_n 0, 1) := by decide +kernel
theorem dX5_ideal_1 : decode cX5_ideal 1 = .ok (.iload_n 1, 1) := by decide +kernel
theorem dX5_ideal_2 : decode cX5_ideal 2 = .ok (.invokevirtual 62, 3) := by decide +kernel
theorem dX5_ideal_5 : decode cX5_ideal 5 = .ok (.astore 5, 2) := by decide +kernel
theorem dX5_ideal_7 : decode cX5_ideal 7 = .ok (.iload 4, 2) := by decide +kernel
theorem dX5_ideal_9 : decode cX5_ideal 9 = .ok (.aload 5, 2) := by decide +kernel
theorem dX5_ideal_11 : decode cX5_ideal 11 = .ok (.getfield 73, 3) := by decide +kernel
theorem dX5_ideal_14 : decode cX5_ideal 14 = .ok (.invokestatic 69, 3) := by decide +kernel
theorem dX5_ideal_17 : decode cX5_ideal 17 = .ok (.aload 5, 2) := by decide +kernel
theorem dX5_ideal_19 : decode cX5_ideal 19 = .ok (.lload_n 2, 1) := by decide +kernel
theorem dX5_ideal_20 : decode cX5_ideal 20 = .ok (.iload 4, 2) := by decide +kernel
theorem dX5_ideal_22 : decode cX5_ideal 22 = .ok (.invokevirtual 219, 3) := by decide +kernel
theorem dX5_ideal_25 : decode cX5_ideal 25 = .ok (.ireturn, 1) := by decide +kernel
set_option maxRecDepth 20000 in
theorem ggX5_bound_X5_layerAt : GoodIn wsX5_bound wsX5_layerAt := goodIn_ca (goodIn_r _ [6, 7, 8, 9, 72, 73, 74, 75, 76, 77] (by decide +kernel) (by decide +kernel)) (goodIn_sub (fun _ h => List.mem_cons_of_mem _ (List.mem_append_left _ (List.mem_append_right _ h))) (by decide +kernel))
set_option maxRecDepth 20000 in
theorem gX5_bound_X5_layerAt : GoodIn wsX5_bound (wsV RX5 62 RX5 yX5_layerAt wsX5_layerAt) := goodIn_app (goodIn_of _ (by decide +kernel)) ggX5_bound_X5_layerAt
set_option maxRecDepth 20000 in
theorem ggX5_bound_X5_checkIndex : GoodIn wsX5_bound wsX5_checkIndex := goodIn_ca (goodIn_r _ [12, 7, 8] (by decide +kernel) (by decide +kernel)) (goodIn_sub (fun _ h => List.mem_cons_of_mem _ (List.mem_append_left _ (List.mem_append_right _ h))) (by decide +kernel))
set_option maxRecDepth 20000 in
theorem gX5_bound_X5_checkIndex : GoodIn wsX5_bound (va_wsS RX5 69 yX5_checkIndex wsX5_checkIndex) := goodIn_app (goodIn_of _ (by decide +kernel)) ggX5_bound_X5_checkIndex
set_option maxRecDepth 20000 in
theorem ggX5_bound_X5_groundOf : GoodIn wsX5_bound wsX5_groundOf := goodIn_ca (goodIn_r _ [15, 16, 17, 18, 64, 65, 66, 67, 68, 69, 70, 71] (by decide +kernel) (by decide +kernel)) (goodIn_sub (fun _ h => List.mem_cons_of_mem _ (List.mem_append_right _ h)) (by decide +kernel))
set_option maxRecDepth 20000 in
theorem gX5_bound_X5_groundOf : GoodIn wsX5_bound (va_wsS RX5 128 yX5_groundOf wsX5_groundOf) := goodIn_app (goodIn_of _ (by decide +kernel)) ggX5_bound_X5_groundOf
set_option maxRecDepth 20000 in
theorem ggX5_bound_X0_boundOn : GoodIn wsX5_bound wsX0_boundOn := goodIn_r _ [23, 24, 25, 26, 22, 27, 28, 29, 30, 31, 32, 33, 34, 35, 36, 37, 38, 39, 40, 41, 42, 43, 44, 45, 46, 47, 48, 49, 50, 51, 52, 53, 54, 55, 56, 57, 58, 5, 59, 60, 61, 62, 63, 64, 65, 66, 67, 68, 69, 70, 71, 78, 79, 80, 81, 82, 83, 84, 85, 86, 87, 88, 89] (by decide +kernel) (by decide +kernel)
set_option maxRecDepth 20000 in
theorem gX5_bound_X0_boundOn : GoodIn wsX5_bound (wsV RX5 223 RX0 yX0_boundOn wsX0_boundOn) := goodIn_app (goodIn_of _ (by decide +kernel)) ggX5_bound_X0_boundOn
theorem dX5_bound_0 : decode cX5_bound 0 = .ok (.aload_n 0, 1) := by decide +kernel
theorem dX5_bound_1 : decode cX5_bound 1 = .ok (.iload_n 1, 1) := by decide +kernel
theorem dX5_bound_2 : decode cX5_bound 2 = .ok (.invokevirtual 62, 3) := by decide +kernel
theorem dX5_bound_5 : decode cX5_bound 5 = .ok (.astore 4, 2) := by decide +kernel
theorem dX5_bound_7 : decode cX5_bound 7 = .ok (.iload_n 2, 1) := by decide +kernel
theorem dX5_bound_8 : decode cX5_bound 8 = .ok (.aload 4, 2) := by decide +kernel
theorem dX5_bound_10 : decode cX5_bound 10 = .ok (.getfield 73, 3) := by decide +kernel
theorem dX5_bound_13 : decode cX5_bound 13 = .ok (.invokestatic 69, 3) := by decide +kernel
theorem dX5_bound_16 : decode cX5_bound 16 = .ok (.aload 4, 2) := by decide +kernel
theorem dX5_bound_18 : decode cX5_bound 18 = .ok (.aload 4, 2) := by decide +kernel
theorem dX5_bound_20 : decode cX5_bound 20 = .ok (.invokestatic 128, 3) := by decide +kernel
theorem dX5_bound_23 : decode cX5_bound 23 = .ok (.iload_n 2, 1) := by decide +kernel
theorem dX5_bound_24 : decode cX5_bound 24 = .ok (.iload_n 3, 1) := by decide +kernel
theorem dX5_bound_25 : decode cX5_bound 25 = .ok (.invokevirtual 223, 3) := by decide +kernel
theorem dX5_bound_28 : decode cX5_bound 28 = .ok (.ireturn, 1) := by decide +kernel
set_option maxRecDepth 20000 in
theorem ggX5_run_X5_layerAt : GoodIn wsX5_run wsX5_layerAt := goodIn_ca (goodIn_r _ [6, 7, 8, 9, 84, 85, 86, 87, 88, 89] (by decide +kernel) (by decide +kernel)) (goodIn_sub (fun _ h => List.mem_cons_of_mem _ (List.mem_append_left _ (List.mem_append_right _ h))) (by decide +kernel))
set_option maxRecDepth 20000 in
theorem gX5_run_X5_layerAt : GoodIn wsX5_run (wsV RX5 62 RX5 yX5_layerAt wsX5_layerAt) := goodIn_app (goodIn_of _ (by decide +kernel)) ggX5_run_X5_layerAt
set_option maxRecDepth 20000 in
theorem ggX5_run_X5_groundOf : GoodIn wsX5_run wsX5_groundOf := goodIn_ca (goodIn_r _ [12, 13, 14, 15, 76, 77, 78, 79, 80, 81, 82, 83] (by decide +kernel) (by decide +kernel)) (goodIn_sub (fun _ h => List.mem_cons_of_mem _ (List.mem_append_right _ h)) (by decide +kernel))
set_option maxRecDepth 20000 in
theorem gX5_run_X5_groundOf : GoodIn wsX5_run (va_wsS RX5 128 yX5_groundOf wsX5_groundOf) := goodIn_app (goodIn_of _ (by decide +kernel)) ggX5_run_X5_groundOf
set_option maxRecDepth 20000 in
theorem ggX5_run_X5_vectorFrom : GoodIn wsX5_run wsX5_vectorFrom := goodIn_r _ [19, 20, 21, 22, 23, 24, 25, 26, 27, 28, 29, 30, 31, 32, 33, 34, 35, 36, 37, 38, 39, 40, 41, 5, 42, 43, 44, 45, 46, 47, 48, 49, 50, 51, 52, 53, 54, 55, 56, 57, 58, 59, 60, 61, 62, 63, 64, 65, 66, 67, 68, 69, 70, 71, 72, 73, 74, 75, 76, 77, 78, 79, 80, 81, 82, 83, 84, 85, 86, 87, 88, 89, 90, 91, 92, 93, 94, 95, 96, 97, 98, 99, 100, 101, 102, 103, 104] (by decide +kernel) (by decide +kernel)
set_option maxRecDepth 20000 in
theorem gX5_run_X5_vectorFrom : GoodIn wsX5_run (wsV RX5 227 RX5 yX5_vectorFrom wsX5_vectorFrom) := goodIn_app (goodIn_of _ (by decide +kernel)) ggX5_run_X5_vectorFrom
theorem dX5_run_0 : decode cX5_run 0 = .ok (.lload_n 2, 1) := by decide +kernel
theorem dX5_run_1 : decode cX5_run 1 = .ok (.lstore 4, 2) := by decide +kernel
theorem dX5_run_3 : decode cX5_run 3 = .ok (.aload_n 0, 1) := by decide +kernel
theorem dX5_run_4 : decode cX5_run 4 = .ok (.iload_n 1, 1) := by decide +kernel
theorem dX5_run_5 : decode cX5_run 5 = .ok (.invokevirtual 62, 3) := by decide +kernel
theorem dX5_run_8 : decode cX5_run 8 = .ok (.astore 6, 2) := by decide +kernel
theorem dX5_run_10 : decode cX5_run 10 = .ok (.aload 6, 2) := by decide +kernel
theorem dX5_run_12 : decode cX5_run 12 = .ok (.ifnull 28, 3) := by decide +kernel
theorem dX5_run_15 : decode cX5_run 15 = .ok (.aload_n 0, 1) := by decide +kernel
theorem dX5_run_16 : decode cX5_run 16 = .ok (.aload 6, 2) := by decide +kernel
theorem dX5_run_18 : decode cX5_run 18 = .ok (.aload 6, 2) := by decide +kernel
theorem dX5_run_20 : decode cX5_run 20 = .ok (.invokestatic 128, 3) := by decide +kernel
theorem dX5_run_23 : decode cX5_run 23 = .ok (.lload 4, 2) := by decide +kernel
theorem dX5_run_25 : decode cX5_run 25 = .ok (.invokevirtual 227, 3) := by decide +kernel
theorem dX5_run_28 : decode cX5_run 28 = .ok (.lstore 4, 2) := by decide +kernel
theorem dX5_run_30 : decode cX5_run 30 = .ok (.aload 6, 2) := by decide +kernel
theorem dX5_run_32 : decode cX5_run 32 = .ok (.getfield 95, 3) := by decide +kernel
theorem dX5_run_35 : decode cX5_run 35 = .ok (.astore 6, 2) := by decide +kernel
theorem dX5_run_37 : decode cX5_run 37 = .ok (.goto (-27), 3) := by decide +kernel
theorem dX5_run_40 : decode cX5_run 40 = .ok (.lload 4, 2) := by decide +kernel
theorem dX5_run_42 : decode cX5_run 42 = .ok (.lreturn, 1) := by decide +kernel
set_option maxRecDepth 20000 in
theorem ggX5_runIdeal_X5_layerAt : GoodIn wsX5_runIdeal wsX5_layerAt := goodIn_ca (goodIn_r _ [6, 7, 8, 9, 78, 79, 80, 81, 82, 83] (by decide +kernel) (by decide +kernel)) (goodIn_sub (fun _ h => List.mem_cons_of_mem _ (List.mem_append_right _ h)) (by decide +kernel))
set_option maxRecDepth 20000 in
theorem gX5_runIdeal_X5_layerAt : GoodIn wsX5_runIdeal (wsV RX5 62 RX5 yX5_layerAt wsX5_layerAt) := goodIn_app (goodIn_of _ (by decide +kernel)) ggX5_runIdeal_X5_layerAt
set_option maxRecDepth 20000 in
theorem ggX5_runIdeal_X5_vectorFrom : GoodIn wsX5_runIdeal wsX5_vectorFrom := goodIn_r _ [13, 14, 15, 16, 17, 18, 19, 20, 21, 22, 23, 24, 25, 26, 27, 28, 29, 30, 31, 32, 33, 34, 35, 5, 36, 37, 38, 39, 40, 41, 42, 43, 44, 45, 46, 47, 48, 49, 50, 51, 52, 53, 54, 55, 56, 57, 58, 59, 60, 61, 62, 63, 64, 65, 66, 67, 68, 69, 70, 71, 72, 73, 74, 75, 76, 77, 78, 79, 80, 81, 82, 83, 84, 85, 86, 87, 88, 89, 90, 91, 92, 93, 94, 95, 96, 97, 98] (by decide +kernel) (by decide +kernel)
set_option maxRecDepth 20000 in
theorem gX5_runIdeal_X5_vectorFrom : GoodIn wsX5_runIdeal (wsV RX5 227 RX5 yX5_vectorFrom wsX5_vectorFrom) := goodIn_app (goodIn_of _ (by decide +kernel)) ggX5_runIdeal_X5_vectorFrom
theorem dX5_runIdeal_0 : decode cX5_runIdeal 0 = .ok (.lload_n 2, 1) := by decide +kernel
theorem dX5_runIdeal_1 : decode cX5_runIdeal 1 = .ok (.lstore 4, 2) := by decide +kernel
theorem dX5_runIdeal_3 : decode cX5_runIdeal 3 = .ok (.aload_n 0, 1) := by decide +kernel
theorem dX5_runIdeal_4 : decode cX5_runIdeal 4 = .ok (.iload_n 1, 1) := by decide +kernel
theorem dX5_runIdeal_5 : decode cX5_runIdeal 5 = .ok (.invokevirtual 62, 3) := by decide +kernel
theorem dX5_runIdeal_8 : decode cX5_runIdeal 8 = .ok (.astore 6, 2) := by decide +kernel
theorem dX5_runIdeal_10 : decode cX5_runIdeal 10 = .ok (.aload 6, 2) := by decide +kernel
theorem dX5_runIdeal_12 : decode cX5_runIdeal 12 = .ok (.ifnull 24, 3) := by decide +kernel
theorem dX5_runIdeal_15 : decode cX5_runIdeal 15 = .ok (.aload_n 0, 1) := by decide +kernel
theorem dX5_runIdeal_16 : decode cX5_runIdeal 16 = .ok (.aload 6, 2) := by decide +kernel
theorem dX5_runIdeal_18 : decode cX5_runIdeal 18 = .ok (.aconst_null, 1) := by decide +kernel
theorem dX5_runIdeal_19 : decode cX5_runIdeal 19 = .ok (.lload 4, 2) := by decide +kernel
theorem dX5_runIdeal_21 : decode cX5_runIdeal 21 = .ok (.invokevirtual 227, 3) := by decide +kernel
theorem dX5_runIdeal_24 : decode cX5_runIdeal 24 = .ok (.lstore 4, 2) := by decide +kernel
theorem dX5_runIdeal_26 : decode cX5_runIdeal 26 = .ok (.aload 6, 2) := by decide +kernel
theorem dX5_runIdeal_28 : decode cX5_runIdeal 28 = .ok (.getfield 95, 3) := by decide +kernel
theorem dX5_runIdeal_31 : decode cX5_runIdeal 31 = .ok (.astore 6, 2) := by decide +kernel
theorem dX5_runIdeal_33 : decode cX5_runIdeal 33 = .ok (.goto (-23), 3) := by decide +kernel
theorem dX5_runIdeal_36 : decode cX5_runIdeal 36 = .ok (.lload 4, 2) := by decide +kernel
theorem dX5_runIdeal_38 : decode cX5_runIdeal 38 = .ok (.lreturn, 1) := by decide +kernel
set_option maxRecDepth 20000 in
theorem ggX5_cycles_X5_layerAt : GoodIn wsX5_cycles wsX5_layerAt := goodIn_ca (goodIn_r _ [6, 7, 8, 9, 58, 59, 60, 61, 62, 63] (by decide +kernel) (by decide +kernel)) (goodIn_sub (fun _ h => List.mem_cons_of_mem _ (List.mem_append_left _ (List.mem_append_left _ (List.mem_append_right _ h)))) (by decide +kernel))
set_option maxRecDepth 20000 in
theorem gX5_cycles_X5_layerAt : GoodIn wsX5_cycles (wsV RX5 62 RX5 yX5_layerAt wsX5_layerAt) := goodIn_app (goodIn_of _ (by decide +kernel)) ggX5_cycles_X5_layerAt
set_option maxRecDepth 20000 in
theorem ggX5_cycles_X5_checkArgument : GoodIn wsX5_cycles wsX5_checkArgument := goodIn_ca (goodIn_r _ [12, 13, 14] (by decide +kernel) (by decide +kernel)) (goodIn_sub (fun _ h => List.mem_cons_of_mem _ (List.mem_append_left _ (List.mem_append_right _ h))) (by decide +kernel))
set_option maxRecDepth 20000 in
theorem gX5_cycles_X5_checkArgument : GoodIn wsX5_cycles (va_wsS RX5 49 yX5_checkArgument wsX5_checkArgument) := goodIn_app (goodIn_of _ (by decide +kernel)) ggX5_cycles_X5_checkArgument
set_option maxRecDepth 20000 in
theorem ggX5_cycles_X5_tellPipeline : GoodIn wsX5_cycles wsX5_tellPipeline := goodIn_ca (goodIn_r _ [18, 1, 19, 20, 21, 22, 23, 24, 25, 26, 27, 5, 28, 29, 30, 31, 32, 33, 34, 35, 36, 37, 38, 39, 40, 41, 42, 43, 44, 45, 46, 47, 48, 49, 58, 59, 60, 61, 62, 63, 64, 65, 66, 67, 68, 69, 70, 71, 72, 73, 74, 75, 76, 77, 78, 79, 80, 81, 82, 83, 84, 85, 86] (by decide +kernel) (by decide +kernel)) (goodIn_sub (fun _ h => List.mem_cons_of_mem _ (List.mem_append_right _ h)) (by decide +kernel))
set_option maxRecDepth 20000 in
theorem gX5_cycles_X5_tellPipeline : GoodIn wsX5_cycles (wsV RX5 231 RX5 yX5_tellPipeline wsX5_tellPipeline) := goodIn_app (goodIn_of _ (by decide +kernel)) ggX5_cycles_X5_tellPipeline
set_option maxRecDepth 20000 in
theorem ggX5_cycles_X1_cyclesReckoned : GoodIn wsX5_cycles wsX1_cyclesReckoned := goodIn_r _ [53, 25, 49, 54, 55, 56, 57, 72, 73, 74] (by decide +kernel) (by decide +kernel)
set_option maxRecDepth 20000 in
theorem gX5_cycles_X1_cyclesReckoned : GoodIn wsX5_cycles (wsV RX5 234 RX1 yX1_cyclesReckoned wsX1_cyclesReckoned) := goodIn_app (goodIn_of _ (by decide +kernel)) ggX5_cycles_X1_cyclesReckoned
theorem dX5_cycles_0 : decode cX5_cycles 0 = .ok (.aload_n 0, 1) := by decide +kernel
theorem dX5_cycles_1 : decode cX5_cycles 1 = .ok (.iload_n 1, 1) := by decide +kernel
theorem dX5_cycles_2 : decode cX5_cycles 2 = .ok (.invokevirtual 62, 3) := by decide +kernel
theorem dX5_cycles_5 : decode cX5_cycles 5 = .ok (.astore_n 3, 1) := by decide +kernel
theorem dX5_cycles_6 : decode cX5_cycles 6 = .ok (.iload_n 2, 1) := by decide +kernel
theorem dX5_cycles_7 : decode cX5_cycles 7 = .ok (.iconst 1, 1) := by decide +kernel
theorem dX5_cycles_8 : decode cX5_cycles 8 = .ok (.sipush 1000, 3) := by decide +kernel
theorem dX5_cycles_11 : decode cX5_cycles 11 = .ok (.invokestatic 49, 3) := by decide +kernel
theorem dX5_cycles_14 : decode cX5_cycles 14 = .ok (.aload_n 0, 1) := by decide +kernel
theorem dX5_cycles_15 : decode cX5_cycles 15 = .ok (.aload_n 3, 1) := by decide +kernel
theorem dX5_cycles_16 : decode cX5_cycles 16 = .ok (.invokevirtual 231, 3) := by decide +kernel
theorem dX5_cycles_19 : decode cX5_cycles 19 = .ok (.aload_n 0, 1) := by decide +kernel
theorem dX5_cycles_20 : decode cX5_cycles 20 = .ok (.getfield 38, 3) := by decide +kernel
theorem dX5_cycles_23 : decode cX5_cycles 23 = .ok (.iload_n 2, 1) := by decide +kernel
theorem dX5_cycles_24 : decode cX5_cycles 24 = .ok (.invokevirtual 234, 3) := by decide +kernel
theorem dX5_cycles_27 : decode cX5_cycles 27 = .ok (.ireturn, 1) := by decide +kernel
set_option maxRecDepth 20000 in
theorem ggX5_cyclesAnew_X5_layerAt : GoodIn wsX5_cyclesAnew wsX5_layerAt := goodIn_ca (goodIn_r _ [6, 7, 8, 9, 64, 65, 66, 67, 68, 69] (by decide +kernel) (by decide +kernel)) (goodIn_sub (fun _ h => List.mem_cons_of_mem _ (List.mem_append_left _ (List.mem_append_left _ (List.mem_append_right _ h)))) (by decide +kernel))
set_option maxRecDepth 20000 in
theorem gX5_cyclesAnew_X5_layerAt : GoodIn wsX5_cyclesAnew (wsV RX5 62 RX5 yX5_layerAt wsX5_layerAt) := goodIn_app (goodIn_of _ (by decide +kernel)) ggX5_cyclesAnew_X5_layerAt
set_option maxRecDepth 20000 in
theorem ggX5_cyclesAnew_X5_checkArgument : GoodIn wsX5_cyclesAnew wsX5_checkArgument := goodIn_ca (goodIn_r _ [12, 13, 14] (by decide +kernel) (by decide +kernel)) (goodIn_sub (fun _ h => List.mem_cons_of_mem _ (List.mem_append_left _ (List.mem_append_right _ h))) (by decide +kernel))
set_option maxRecDepth 20000 in
theorem gX5_cyclesAnew_X5_checkArgument : GoodIn wsX5_cyclesAnew (va_wsS RX5 49 yX5_checkArgument wsX5_checkArgument) := goodIn_app (goodIn_of _ (by decide +kernel)) ggX5_cyclesAnew_X5_checkArgument
set_option maxRecDepth 20000 in
theorem ggX5_cyclesAnew_X5_tellPipeline : GoodIn wsX5_cyclesAnew wsX5_tellPipeline := goodIn_ca (goodIn_r _ [18, 1, 19, 20, 21, 22, 23, 24, 25, 26, 27, 5, 28, 29, 30, 31, 32, 33, 34, 35, 36, 37, 38, 39, 40, 41, 42, 43, 44, 45, 46, 47, 48, 49, 64, 65, 66, 67, 68, 69, 70, 71, 72, 73, 74, 75, 76, 77, 78, 79, 80, 81, 82, 83, 84, 85, 86, 87, 88, 89, 90, 91, 92] (by decide +kernel) (by decide +kernel)) (goodIn_sub (fun _ h => List.mem_cons_of_mem _ (List.mem_append_right _ h)) (by decide +kernel))
set_option maxRecDepth 20000 in
theorem gX5_cyclesAnew_X5_tellPipeline : GoodIn wsX5_cyclesAnew (wsV RX5 231 RX5 yX5_tellPipeline wsX5_tellPipeline) := goodIn_app (goodIn_of _ (by decide +kernel)) ggX5_cyclesAnew_X5_tellPipeline
set_option maxRecDepth 20000 in
theorem ggX5_cyclesAnew_X1_cyclesCounted : GoodIn wsX5_cyclesAnew wsX1_cyclesCounted := goodIn_r _ [53, 25, 54, 55, 49, 56, 57, 58, 23, 59, 60, 61, 62, 63, 78, 79, 80] (by decide +kernel) (by decide +kernel)
set_option maxRecDepth 20000 in
theorem gX5_cyclesAnew_X1_cyclesCounted : GoodIn wsX5_cyclesAnew (wsV RX5 237 RX1 yX1_cyclesCounted wsX1_cyclesCounted) := goodIn_app (goodIn_of _ (by decide +kernel)) ggX5_cyclesAnew_X1_cyclesCounted
theorem dX5_cyclesAnew_0 : decode cX5_cyclesAnew 0 = .ok (.aload_n 0, 1) := by decide +kernel
theorem dX5_cyclesAnew_1 : decode cX5_cyclesAnew 1 = .ok (.iload_n 1, 1) := by decide +kernel
theorem dX5_cyclesAnew_2 : decode cX5_cyclesAnew 2 = .ok (.invokevirtual 62, 3) := by decide +kernel
theorem dX5_cyclesAnew_5 : decode cX5_cyclesAnew 5 = .ok (.astore_n 3, 1) := by decide +kernel
theorem dX5_cyclesAnew_6 : decode cX5_cyclesAnew 6 = .ok (.iload_n 2, 1) := by decide +kernel
theorem dX5_cyclesAnew_7 : decode cX5_cyclesAnew 7 = .ok (.iconst 1, 1) := by decide +kernel
theorem dX5_cyclesAnew_8 : decode cX5_cyclesAnew 8 = .ok (.sipush 1000, 3) := by decide +kernel
theorem dX5_cyclesAnew_11 : decode cX5_cyclesAnew 11 = .ok (.invokestatic 49, 3) := by decide +kernel
theorem dX5_cyclesAnew_14 : decode cX5_cyclesAnew 14 = .ok (.aload_n 0, 1) := by decide +kernel
theorem dX5_cyclesAnew_15 : decode cX5_cyclesAnew 15 = .ok (.aload_n 3, 1) := by decide +kernel
theorem dX5_cyclesAnew_16 : decode cX5_cyclesAnew 16 = .ok (.invokevirtual 231, 3) := by decide +kernel
theorem dX5_cyclesAnew_19 : decode cX5_cyclesAnew 19 = .ok (.aload_n 0, 1) := by decide +kernel
theorem dX5_cyclesAnew_20 : decode cX5_cyclesAnew 20 = .ok (.getfield 38, 3) := by decide +kernel
theorem dX5_cyclesAnew_23 : decode cX5_cyclesAnew 23 = .ok (.iload_n 2, 1) := by decide +kernel
theorem dX5_cyclesAnew_24 : decode cX5_cyclesAnew 24 = .ok (.invokevirtual 237, 3) := by decide +kernel
theorem dX5_cyclesAnew_27 : decode cX5_cyclesAnew 27 = .ok (.ireturn, 1) := by decide +kernel
set_option maxRecDepth 20000 in
theorem ggX5_wear_X5_tileAt : GoodIn wsX5_wear wsX5_tileAt := goodIn_ca (goodIn_r _ [6, 7, 8, 9, 22, 23, 24, 25, 26, 27] (by decide +kernel) (by decide +kernel)) (goodIn_sub (fun _ h => List.mem_cons_of_mem _ (List.mem_append_right _ h)) (by decide +kernel))
set_option maxRecDepth 20000 in
theorem gX5_wear_X5_tileAt : GoodIn wsX5_wear (wsV RX5 102 RX5 yX5_tileAt wsX5_tileAt) := goodIn_app (goodIn_of _ (by decide +kernel)) ggX5_wear_X5_tileAt
theorem dX5_wear_0 : decode cX5_wear 0 = .ok (.aload_n 0, 1) := by decide +kernel
theorem dX5_wear_1 : decode cX5_wear 1 = .ok (.iload_n 1, 1) := by decide +kernel
theorem dX5_wear_2 : decode cX5_wear 2 = .ok (.invokevirtual 102, 3) := by decide +kernel
theorem dX5_wear_5 : decode cX5_wear 5 = .ok (.astore_n 2, 1) := by decide +kernel
theorem dX5_wear_6 : decode cX5_wear 6 = .ok (.lconst 0, 1) := by decide +kernel
theorem dX5_wear_7 : decode cX5_wear 7 = .ok (.lstore_n 3, 1) := by decide +kernel
theorem dX5_wear_8 : decode cX5_wear 8 = .ok (.iconst 0, 1) := by decide +kernel
theorem dX5_wear_9 : decode cX5_wear 9 = .ok (.istore 5, 2) := by decide +kernel
theorem dX5_wear_11 : decode cX5_wear 11 = .ok (.iload 5, 2) := by decide +kernel
theorem dX5_wear_13 : decode cX5_wear 13 = .ok (.sipush 128, 3) := by decide +kernel
theorem dX5_wear_16 : decode cX5_wear 16 = .ok (.if_icmp .ge 20, 3) := by decide +kernel
theorem dX5_wear_19 : decode cX5_wear 19 = .ok (.lload_n 3, 1) := by decide +kernel
theorem dX5_wear_20 : decode cX5_wear 20 = .ok (.aload_n 2, 1) := by decide +kernel
theorem dX5_wear_21 : decode cX5_wear 21 = .ok (.getfield 190, 3) := by decide +kernel
theorem dX5_wear_24 : decode cX5_wear 24 = .ok (.iload 5, 2) := by decide +kernel
theorem dX5_wear_26 : decode cX5_wear 26 = .ok (.iaload, 1) := by decide +kernel
theorem dX5_wear_27 : decode cX5_wear 27 = .ok (.i2l, 1) := by decide +kernel
theorem dX5_wear_28 : decode cX5_wear 28 = .ok (.ladd, 1) := by decide +kernel
theorem dX5_wear_29 : decode cX5_wear 29 = .ok (.lstore_n 3, 1) := by decide +kernel
theorem dX5_wear_30 : decode cX5_wear 30 = .ok (.iinc 5 1, 3) := by decide +kernel
theorem dX5_wear_33 : decode cX5_wear 33 = .ok (.goto (-22), 3) := by decide +kernel
theorem dX5_wear_36 : decode cX5_wear 36 = .ok (.lload_n 3, 1) := by decide +kernel
theorem dX5_wear_37 : decode cX5_wear 37 = .ok (.lreturn, 1) := by decide +kernel
set_option maxRecDepth 20000 in
theorem ggX5_share_X5_tileAt : GoodIn wsX5_share wsX5_tileAt := goodIn_ca (goodIn_r _ [7, 8, 9, 10, 23, 24, 25, 26, 27, 28] (by decide +kernel) (by decide +kernel)) (goodIn_sub (fun _ h => List.mem_cons_of_mem _ (List.mem_append_right _ h)) (by decide +kernel))
set_option maxRecDepth 20000 in
theorem gX5_share_X5_tileAt : GoodIn wsX5_share (wsV RX5 102 RX5 yX5_tileAt wsX5_tileAt) := goodIn_app (goodIn_of _ (by decide +kernel)) ggX5_share_X5_tileAt
theorem dX5_share_0 : decode cX5_share 0 = .ok (.aload_n 0, 1) := by decide +kernel
theorem dX5_share_1 : decode cX5_share 1 = .ok (.iload_n 1, 1) := by decide +kernel
theorem dX5_share_2 : decode cX5_share 2 = .ok (.invokevirtual 102, 3) := by decide +kernel
theorem dX5_share_5 : decode cX5_share 5 = .ok (.astore_n 2, 1) := by decide +kernel
theorem dX5_share_6 : decode cX5_share 6 = .ok (.iconst 0, 1) := by decide +kernel
theorem dX5_share_7 : decode cX5_share 7 = .ok (.istore_n 3, 1) := by decide +kernel
theorem dX5_share_8 : decode cX5_share 8 = .ok (.iconst 0, 1) := by decide +kernel
theorem dX5_share_9 : decode cX5_share 9 = .ok (.istore 4, 2) := by decide +kernel
theorem dX5_share_11 : decode cX5_share 11 = .ok (.iload 4, 2) := by decide +kernel
theorem dX5_share_13 : decode cX5_share 13 = .ok (.sipush 128, 3) := by decide +kernel
theorem dX5_share_16 : decode cX5_share 16 = .ok (.if_icmp .ge 27, 3) := by decide +kernel
theorem dX5_share_19 : decode cX5_share 19 = .ok (.iload_n 3, 1) := by decide +kernel
theorem dX5_share_20 : decode cX5_share 20 = .ok (.aload_n 2, 1) := by decide +kernel
theorem dX5_share_21 : decode cX5_share 21 = .ok (.getfield 193, 3) := by decide +kernel
theorem dX5_share_24 : decode cX5_share 24 = .ok (.iload 4, 2) := by decide +kernel
theorem dX5_share_26 : decode cX5_share 26 = .ok (.baload, 1) := by decide +kernel
theorem dX5_share_27 : decode cX5_share 27 = .ok (.ifCond .eq 7, 3) := by decide +kernel
theorem dX5_share_30 : decode cX5_share 30 = .ok (.iconst 1, 1) := by decide +kernel
theorem dX5_share_31 : decode cX5_share 31 = .ok (.goto 4, 3) := by decide +kernel
theorem dX5_share_34 : decode cX5_share 34 = .ok (.iconst 0, 1) := by decide +kernel
theorem dX5_share_35 : decode cX5_share 35 = .ok (.iadd, 1) := by decide +kernel
theorem dX5_share_36 : decode cX5_share 36 = .ok (.istore_n 3, 1) := by decide +kernel
theorem dX5_share_37 : decode cX5_share 37 = .ok (.iinc 4 1, 3) := by decide +kernel
theorem dX5_share_40 : decode cX5_share 40 = .ok (.goto (-29), 3) := by decide +kernel
theorem dX5_share_43 : decode cX5_share 43 = .ok (.iload_n 3, 1) := by decide +kernel
theorem dX5_share_44 : decode cX5_share 44 = .ok (.i2f, 1) := by decide +kernel
theorem dX5_share_45 : decode cX5_share 45 = .ok (.ldc 240, 2) := by decide +kernel
theorem dX5_share_47 : decode cX5_share 47 = .ok (.fdiv, 1) := by decide +kernel
theorem dX5_share_48 : decode cX5_share 48 = .ok (.freturn, 1) := by decide +kernel
theorem dX5_hour_0 : decode cX5_hour 0 = .ok (.aload_n 0, 1) := by decide +kernel
theorem dX5_hour_1 : decode cX5_hour 1 = .ok (.getfield 12, 3) := by decide +kernel
theorem dX5_hour_4 : decode cX5_hour 4 = .ok (.getfield 151, 3) := by decide +kernel
theorem dX5_hour_7 : decode cX5_hour 7 = .ok (.ireturn, 1) := by decide +kernel
theorem dX5_layerAt_0 : decode cX5_layerAt 0 = .ok (.iload_n 1, 1) := by decide +kernel
theorem dX5_layerAt_1 : decode cX5_layerAt 1 = .ok (.ifCond .lt 18, 3) := by decide +kernel
theorem dX5_layerAt_4 : decode cX5_layerAt 4 = .ok (.iload_n 1, 1) := by decide +kernel
theorem dX5_layerAt_5 : decode cX5_layerAt 5 = .ok (.bipush 6, 2) := by decide +kernel
theorem dX5_layerAt_7 : decode cX5_layerAt 7 = .ok (.if_icmp .ge 12, 3) := by decide +kernel
theorem dX5_layerAt_10 : decode cX5_layerAt 10 = .ok (.aload_n 0, 1) := by decide +kernel
theorem dX5_layerAt_11 : decode cX5_layerAt 11 = .ok (.getfield 24, 3) := by decide +kernel
theorem dX5_layerAt_14 : decode cX5_layerAt 14 = .ok (.iload_n 1, 1) := by decide +kernel
theorem dX5_layerAt_15 : decode cX5_layerAt 15 = .ok (.aaload, 1) := by decide +kernel
theorem dX5_layerAt_16 : decode cX5_layerAt 16 = .ok (.ifnonnull 13, 3) := by decide +kernel
theorem dX5_layerAt_19 : decode cX5_layerAt 19 = .ok (.new 241, 3) := by decide +kernel
theorem dX5_layerAt_22 : decode cX5_layerAt 22 = .ok (.dup, 1) := by decide +kernel
theorem dX5_layerAt_23 : decode cX5_layerAt 23 = .ok (.ldc 243, 2) := by decide +kernel
theorem dX5_layerAt_25 : decode cX5_layerAt 25 = .ok (.invokespecial 245, 3) := by decide +kernel
theorem dX5_layerAt_28 : decode cX5_layerAt 28 = .ok (.athrow, 1) := by decide +kernel
theorem dX5_layerAt_29 : decode cX5_layerAt 29 = .ok (.aload_n 0, 1) := by decide +kernel
theorem dX5_layerAt_30 : decode cX5_layerAt 30 = .ok (.getfield 24, 3) := by decide +kernel
theorem dX5_layerAt_33 : decode cX5_layerAt 33 = .ok (.iload_n 1, 1) := by decide +kernel
theorem dX5_layerAt_34 : decode cX5_layerAt 34 = .ok (.aaload, 1) := by decide +kernel
theorem dX5_layerAt_35 : decode cX5_layerAt 35 = .ok (.areturn, 1) := by decide +kernel
theorem dX5_tileAt_0 : decode cX5_tileAt 0 = .ok (.iload_n 1, 1) := by decide +kernel
theorem dX5_tileAt_1 : decode cX5_tileAt 1 = .ok (.ifCond .lt 9, 3) := by decide +kernel
theorem dX5_tileAt_4 : decode cX5_tileAt 4 = .ok (.iload_n 1, 1) := by decide +kernel
theorem dX5_tileAt_5 : decode cX5_tileAt 5 = .ok (.bipush 6, 2) := by decide +kernel
theorem dX5_tileAt_7 : decode cX5_tileAt 7 = .ok (.if_icmp .lt 13, 3) := by decide +kernel
theorem dX5_tileAt_10 : decode cX5_tileAt 10 = .ok (.new 241, 3) := by decide +kernel
theorem dX5_tileAt_13 : decode cX5_tileAt 13 = .ok (.dup, 1) := by decide +kernel
theorem dX5_tileAt_14 : decode cX5_tileAt 14 = .ok (.ldc 246, 2) := by decide +kernel
theorem dX5_tileAt_16 : decode cX5_tileAt 16 = .ok (.invokespecial 245, 3) := by decide +kernel
theorem dX5_tileAt_19 : decode cX5_tileAt 19 = .ok (.athrow, 1) := by decide +kernel
theorem dX5_tileAt_20 : decode cX5_tileAt 20 = .ok (.aload_n 0, 1) := by decide +kernel
theorem dX5_tileAt_21 : decode cX5_tileAt 21 = .ok (.getfield 18, 3) := by decide +kernel
theorem dX5_tileAt_24 : decode cX5_tileAt 24 = .ok (.iload_n 1, 1) := by decide +kernel
theorem dX5_tileAt_25 : decode cX5_tileAt 25 = .ok (.aaload, 1) := by decide +kernel
theorem dX5_tileAt_26 : decode cX5_tileAt 26 = .ok (.areturn, 1) := by decide +kernel
theorem dX5_groundOf_0 : decode cX5_groundOf 0 = .ok (.aload_n 0, 1) := by decide +kernel
theorem dX5_groundOf_1 : decode cX5_groundOf 1 = .ok (.getfield 106, 3) := by decide +kernel
theorem dX5_groundOf_4 : decode cX5_groundOf 4 = .ok (.ifnonnull 13, 3) := by decide +kernel
theorem dX5_groundOf_7 : decode cX5_groundOf 7 = .ok (.new 53, 3) := by decide +kernel
theorem dX5_groundOf_10 : decode cX5_groundOf 10 = .ok (.dup, 1) := by decide +kernel
theorem dX5_groundOf_11 : decode cX5_groundOf 11 = .ok (.ldc 248, 2) := by decide +kernel
theorem dX5_groundOf_13 : decode cX5_groundOf 13 = .ok (.invokespecial 57, 3) := by decide +kernel
theorem dX5_groundOf_16 : decode cX5_groundOf 16 = .ok (.athrow, 1) := by decide +kernel
theorem dX5_groundOf_17 : decode cX5_groundOf 17 = .ok (.aload_n 0, 1) := by decide +kernel
theorem dX5_groundOf_18 : decode cX5_groundOf 18 = .ok (.getfield 106, 3) := by decide +kernel
theorem dX5_groundOf_21 : decode cX5_groundOf 21 = .ok (.areturn, 1) := by decide +kernel
theorem dX5_checkIndex_0 : decode cX5_checkIndex 0 = .ok (.iload_n 0, 1) := by decide +kernel
theorem dX5_checkIndex_1 : decode cX5_checkIndex 1 = .ok (.ifCond .lt 8, 3) := by decide +kernel
theorem dX5_checkIndex_4 : decode cX5_checkIndex 4 = .ok (.iload_n 0, 1) := by decide +kernel
theorem dX5_checkIndex_5 : decode cX5_checkIndex 5 = .ok (.iload_n 1, 1) := by decide +kernel
theorem dX5_checkIndex_6 : decode cX5_checkIndex 6 = .ok (.if_icmp .lt 13, 3) := by decide +kernel
theorem dX5_checkIndex_9 : decode cX5_checkIndex 9 = .ok (.new 241, 3) := by decide +kernel
theorem dX5_checkIndex_12 : decode cX5_checkIndex 12 = .ok (.dup, 1) := by decide +kernel
theorem dX5_checkIndex_13 : decode cX5_checkIndex 13 = .ok (.ldc 250, 2) := by decide +kernel
theorem dX5_checkIndex_15 : decode cX5_checkIndex 15 = .ok (.invokespecial 245, 3) := by decide +kernel
theorem dX5_checkIndex_18 : decode cX5_checkIndex 18 = .ok (.athrow, 1) := by decide +kernel
theorem dX5_checkIndex_19 : decode cX5_checkIndex 19 = .ok (.return_, 1) := by decide +kernel
theorem dX5_checkArgument_0 : decode cX5_checkArgument 0 = .ok (.iload_n 0, 1) := by decide +kernel
theorem dX5_checkArgument_1 : decode cX5_checkArgument 1 = .ok (.iload_n 1, 1) := by decide +kernel
theorem dX5_checkArgument_2 : decode cX5_checkArgument 2 = .ok (.if_icmp .lt 8, 3) := by decide +kernel
theorem dX5_checkArgument_5 : decode cX5_checkArgument 5 = .ok (.iload_n 0, 1) := by decide +kernel
theorem dX5_checkArgument_6 : decode cX5_checkArgument 6 = .ok (.iload_n 2, 1) := by decide +kernel
theorem dX5_checkArgument_7 : decode cX5_checkArgument 7 = .ok (.if_icmp .le 13, 3) := by decide +kernel
theorem dX5_checkArgument_10 : decode cX5_checkArgument 10 = .ok (.new 90, 3) := by decide +kernel
theorem dX5_checkArgument_13 : decode cX5_checkArgument 13 = .ok (.dup, 1) := by decide +kernel
theorem dX5_checkArgument_14 : decode cX5_checkArgument 14 = .ok (.ldc 252, 2) := by decide +kernel
theorem dX5_checkArgument_16 : decode cX5_checkArgument 16 = .ok (.invokespecial 94, 3) := by decide +kernel
theorem dX5_checkArgument_19 : decode cX5_checkArgument 19 = .ok (.athrow, 1) := by decide +kernel
theorem dX5_checkArgument_20 : decode cX5_checkArgument 20 = .ok (.return_, 1) := by decide +kernel
theorem dX5_indexOf_0 : decode cX5_indexOf 0 = .ok (.iload_n 0, 1) := by decide +kernel
theorem dX5_indexOf_1 : decode cX5_indexOf 1 = .ok (.bipush 16, 2) := by decide +kernel
theorem dX5_indexOf_3 : decode cX5_indexOf 3 = .ok (.imul, 1) := by decide +kernel
theorem dX5_indexOf_4 : decode cX5_indexOf 4 = .ok (.iload_n 1, 1) := by decide +kernel
theorem dX5_indexOf_5 : decode cX5_indexOf 5 = .ok (.iadd, 1) := by decide +kernel
theorem dX5_indexOf_6 : decode cX5_indexOf 6 = .ok (.ireturn, 1) := by decide +kernel
theorem dX5_inputOf_0 : decode cX5_inputOf 0 = .ok (.lload_n 0, 1) := by decide +kernel
theorem dX5_inputOf_1 : decode cX5_inputOf 1 = .ok (.bipush 8, 2) := by decide +kernel
theorem dX5_inputOf_3 : decode cX5_inputOf 3 = .ok (.iload_n 2, 1) := by decide +kernel
theorem dX5_inputOf_4 : decode cX5_inputOf 4 = .ok (.imul, 1) := by decide +kernel
theorem dX5_inputOf_5 : decode cX5_inputOf 5 = .ok (.lshr, 1) := by decide +kernel
theorem dX5_inputOf_6 : decode cX5_inputOf 6 = .ok (.l2i, 1) := by decide +kernel
theorem dX5_inputOf_7 : decode cX5_inputOf 7 = .ok (.sipush 255, 3) := by decide +kernel
theorem dX5_inputOf_10 : decode cX5_inputOf 10 = .ok (.iand, 1) := by decide +kernel
theorem dX5_inputOf_11 : decode cX5_inputOf 11 = .ok (.ireturn, 1) := by decide +kernel
theorem dX5_quotient_0 : decode cX5_quotient 0 = .ok (.iload_n 1, 1) := by decide +kernel
theorem dX5_quotient_1 : decode cX5_quotient 1 = .ok (.iconst 1, 1) := by decide +kernel
theorem dX5_quotient_2 : decode cX5_quotient 2 = .ok (.if_icmp .ge 7, 3) := by decide +kernel
theorem dX5_quotient_5 : decode cX5_quotient 5 = .ok (.iconst 0, 1) := by decide +kernel
theorem dX5_quotient_6 : decode cX5_quotient 6 = .ok (.goto 6, 3) := by decide +kernel
theorem dX5_quotient_9 : decode cX5_quotient 9 = .ok (.iload_n 0, 1) := by decide +kernel
theorem dX5_quotient_10 : decode cX5_quotient 10 = .ok (.iload_n 1, 1) := by decide +kernel
theorem dX5_quotient_11 : decode cX5_quotient 11 = .ok (.idiv, 1) := by decide +kernel
theorem dX5_quotient_12 : decode cX5_quotient 12 = .ok (.ireturn, 1) := by decide +kernel
theorem dX5_drawBehind_0 : decode cX5_drawBehind 0 = .ok (.sipush 25173, 3) := by decide +kernel
theorem dX5_drawBehind_3 : decode cX5_drawBehind 3 = .ok (.iload_n 0, 1) := by decide +kernel
theorem dX5_drawBehind_4 : decode cX5_drawBehind 4 = .ok (.imul, 1) := by decide +kernel
theorem dX5_drawBehind_5 : decode cX5_drawBehind 5 = .ok (.sipush 13849, 3) := by decide +kernel
theorem dX5_drawBehind_8 : decode cX5_drawBehind 8 = .ok (.iadd, 1) := by decide +kernel
theorem dX5_drawBehind_9 : decode cX5_drawBehind 9 = .ok (.ldc 254, 2) := by decide +kernel
theorem dX5_drawBehind_11 : decode cX5_drawBehind 11 = .ok (.irem, 1) := by decide +kernel
theorem dX5_drawBehind_12 : decode cX5_drawBehind 12 = .ok (.ireturn, 1) := by decide +kernel
set_option maxRecDepth 20000 in
theorem ggX5_vectorFrom_X0_idealAnswer : GoodIn wsX5_vectorFrom wsX0_idealAnswer := goodIn_r _ [15, 16, 17, 18, 19, 14, 20, 21, 22, 23, 24, 58, 59, 60, 61, 62, 63, 64, 65] (by decide +kernel) (by decide +kernel)
set_option maxRecDepth 20000 in
theorem gX5_vectorFrom_X0_idealAnswer : GoodIn wsX5_vectorFrom (wsV RX5 219 RX0 yX0_idealAnswer wsX0_idealAnswer) := goodIn_app (goodIn_of _ (by decide +kernel)) ggX5_vectorFrom_X0_idealAnswer
set_option maxRecDepth 20000 in
theorem ggX5_vectorFrom_X0_answerOn : GoodIn wsX5_vectorFrom wsX0_answerOn := goodIn_r _ [28, 29, 30, 31, 14, 32, 16, 33, 22, 23, 24, 34, 35, 36, 37, 38, 39, 40, 41, 42, 43, 44, 9, 6, 10, 45, 46, 47, 48, 49, 50, 51, 52, 53, 54, 55, 56, 57, 5, 7, 58, 59, 60, 61, 62, 63, 64, 65, 72, 73, 74, 75, 76, 77, 78, 79, 80, 81, 82, 83, 84, 85, 86] (by decide +kernel) (by decide +kernel)
set_option maxRecDepth 20000 in
theorem gX5_vectorFrom_X0_answerOn : GoodIn wsX5_vectorFrom (wsV RX5 215 RX0 yX0_answerOn wsX0_answerOn) := goodIn_app (goodIn_of _ (by decide +kernel)) ggX5_vectorFrom_X0_answerOn
theorem dX5_vectorFrom_0 : decode cX5_vectorFrom 0 = .ok (.lconst 0, 1) := by decide +kernel
theorem dX5_vectorFrom_1 : decode cX5_vectorFrom 1 = .ok (.lstore 5, 2) := by decide +kernel
theorem dX5_vectorFrom_3 : decode cX5_vectorFrom 3 = .ok (.iconst 0, 1) := by decide +kernel
theorem dX5_vectorFrom_4 : decode cX5_vectorFrom 4 = .ok (.istore 7, 2) := by decide +kernel
theorem dX5_vectorFrom_6 : decode cX5_vectorFrom 6 = .ok (.iload 7, 2) := by decide +kernel
theorem dX5_vectorFrom_8 : decode cX5_vectorFrom 8 = .ok (.aload_n 1, 1) := by decide +kernel
theorem dX5_vectorFrom_9 : decode cX5_vectorFrom 9 = .ok (.getfield 73, 3) := by decide +kernel
theorem dX5_vectorFrom_12 : decode cX5_vectorFrom 12 = .ok (.if_icmp .ge 70, 3) := by decide +kernel
theorem dX5_vectorFrom_15 : decode cX5_vectorFrom 15 = .ok (.aload_n 2, 1) := by decide +kernel
theorem dX5_vectorFrom_16 : decode cX5_vectorFrom 16 = .ok (.ifnonnull 13, 3) := by decide +kernel
theorem dX5_vectorFrom_19 : decode cX5_vectorFrom 19 = .ok (.aload_n 1, 1) := by decide +kernel
theorem dX5_vectorFrom_20 : decode cX5_vectorFrom 20 = .ok (.lload_n 3, 1) := by decide +kernel
theorem dX5_vectorFrom_21 : decode cX5_vectorFrom 21 = .ok (.iload 7, 2) := by decide +kernel
theorem dX5_vectorFrom_23 : decode cX5_vectorFrom 23 = .ok (.invokevirtual 219, 3) := by decide +kernel
theorem dX5_vectorFrom_26 : decode cX5_vectorFrom 26 = .ok (.goto 15, 3) := by decide +kernel
theorem dX5_vectorFrom_29 : decode cX5_vectorFrom 29 = .ok (.aload_n 1, 1) := by decide +kernel
theorem dX5_vectorFrom_30 : decode cX5_vectorFrom 30 = .ok (.aload_n 2, 1) := by decide +kernel
theorem dX5_vectorFrom_31 : decode cX5_vectorFrom 31 = .ok (.lload_n 3, 1) := by decide +kernel
theorem dX5_vectorFrom_32 : decode cX5_vectorFrom 32 = .ok (.iload 7, 2) := by decide +kernel
theorem dX5_vectorFrom_34 : decode cX5_vectorFrom 34 = .ok (.aload_n 0, 1) := by decide +kernel
theorem dX5_vectorFrom_35 : decode cX5_vectorFrom 35 = .ok (.getfield 12, 3) := by decide +kernel
theorem dX5_vectorFrom_38 : decode cX5_vectorFrom 38 = .ok (.invokevirtual 215, 3) := by decide +kernel
theorem dX5_vectorFrom_41 : decode cX5_vectorFrom 41 = .ok (.istore 8, 2) := by decide +kernel
theorem dX5_vectorFrom_43 : decode cX5_vectorFrom 43 = .ok (.iconst 0, 1) := by decide +kernel
theorem dX5_vectorFrom_44 : decode cX5_vectorFrom 44 = .ok (.sipush 255, 3) := by decide +kernel
theorem dX5_vectorFrom_47 : decode cX5_vectorFrom 47 = .ok (.iload 8, 2) := by decide +kernel
theorem dX5_vectorFrom_49 : decode cX5_vectorFrom 49 = .ok (.aload_n 1, 1) := by decide +kernel
theorem dX5_vectorFrom_50 : decode cX5_vectorFrom 50 = .ok (.getfield 83, 3) := by decide +kernel
theorem dX5_vectorFrom_53 : decode cX5_vectorFrom 53 = .ok (.ishr, 1) := by decide +kernel
theorem dX5_vectorFrom_54 : decode cX5_vectorFrom 54 = .ok (.invokestatic 255, 3) := by decide +kernel
theorem dX5_vectorFrom_57 : decode cX5_vectorFrom 57 = .ok (.invokestatic 260, 3) := by decide +kernel
theorem dX5_vectorFrom_60 : decode cX5_vectorFrom 60 = .ok (.istore 9, 2) := by decide +kernel
theorem dX5_vectorFrom_62 : decode cX5_vectorFrom 62 = .ok (.lload 5, 2) := by decide +kernel
theorem dX5_vectorFrom_64 : decode cX5_vectorFrom 64 = .ok (.iload 9, 2) := by decide +kernel
theorem dX5_vectorFrom_66 : decode cX5_vectorFrom 66 = .ok (.i2l, 1) := by decide +kernel
theorem dX5_vectorFrom_67 : decode cX5_vectorFrom 67 = .ok (.bipush 8, 2) := by decide +kernel
theorem dX5_vectorFrom_69 : decode cX5_vectorFrom 69 = .ok (.iload 7, 2) := by decide +kernel
theorem dX5_vectorFrom_71 : decode cX5_vectorFrom 71 = .ok (.imul, 1) := by decide +kernel
theorem dX5_vectorFrom_72 : decode cX5_vectorFrom 72 = .ok (.lshl, 1) := by decide +kernel
theorem dX5_vectorFrom_73 : decode cX5_vectorFrom 73 = .ok (.lor, 1) := by decide +kernel
theorem dX5_vectorFrom_74 : decode cX5_vectorFrom 74 = .ok (.lstore 5, 2) := by decide +kernel
theorem dX5_vectorFrom_76 : decode cX5_vectorFrom 76 = .ok (.iinc 7 1, 3) := by decide +kernel
theorem dX5_vectorFrom_79 : decode cX5_vectorFrom 79 = .ok (.goto (-73), 3) := by decide +kernel
theorem dX5_vectorFrom_82 : decode cX5_vectorFrom 82 = .ok (.lload 5, 2) := by decide +kernel
theorem dX5_vectorFrom_84 : decode cX5_vectorFrom 84 = .ok (.lreturn, 1) := by decide +kernel
set_option maxRecDepth 20000 in
theorem ggX5_tellPipeline_X1_clear : GoodIn wsX5_tellPipeline wsX1_clear := goodIn_r _ [7, 8, 48, 49, 50] (by decide +kernel) (by decide +kernel)
set_option maxRecDepth 20000 in
theorem gX5_tellPipeline_X1_clear : GoodIn wsX5_tellPipeline (wsV RX5 263 RX1 yX1_clear wsX1_clear) := goodIn_app (goodIn_of _ (by decide +kernel)) ggX5_tellPipeline_X1_clear
set_option maxRecDepth 20000 in
theorem ggX5_tellPipeline_X5_groundOf : GoodIn wsX5_tellPipeline wsX5_groundOf := goodIn_ca (goodIn_r _ [12, 13, 14, 15, 40, 41, 42, 43, 44, 45, 46, 47] (by decide +kernel) (by decide +kernel)) (goodIn_sub (fun _ h => List.mem_cons_of_mem _ (List.mem_append_right _ h)) (by decide +kernel))
set_option maxRecDepth 20000 in
theorem gX5_tellPipeline_X5_groundOf : GoodIn wsX5_tellPipeline (va_wsS RX5 128 yX5_groundOf wsX5_groundOf) := goodIn_app (goodIn_of _ (by decide +kernel)) ggX5_tellPipeline_X5_groundOf
set_option maxRecDepth 20000 in
theorem ggX5_tellPipeline_X0_cyclesOn : GoodIn wsX5_tellPipeline wsX0_cyclesOn := goodIn_r _ [20, 21, 22, 23, 24, 19, 25, 26, 27, 11, 28, 51, 52, 53, 54, 55, 56, 57, 58, 59, 60, 61, 62, 40, 41, 42, 43, 44, 45, 46, 47] (by decide +kernel) (by decide +kernel)
set_option maxRecDepth 20000 in
theorem gX5_tellPipeline_X0_cyclesOn : GoodIn wsX5_tellPipeline (wsV RX5 266 RX0 yX0_cyclesOn wsX0_cyclesOn) := goodIn_app (goodIn_of _ (by decide +kernel)) ggX5_tellPipeline_X0_cyclesOn
set_option maxRecDepth 20000 in
theorem ggX5_tellPipeline_X1_add : GoodIn wsX5_tellPipeline wsX1_add := goodIn_r _ [32, 8, 33, 48, 49, 50] (by decide +kernel) (by decide +kernel)
set_option maxRecDepth 20000 in
theorem gX5_tellPipeline_X1_add : GoodIn wsX5_tellPipeline (wsV RX5 270 RX1 yX1_add wsX1_add) := goodIn_app (goodIn_of _ (by decide +kernel)) ggX5_tellPipeline_X1_add
theorem dX5_tellPipeline_0 : decode cX5_tellPipeline 0 = .ok (.aload_n 0, 1) := by decide +kernel
theorem dX5_tellPipeline_1 : decode cX5_tellPipeline 1 = .ok (.getfield 38, 3) := by decide +kernel
theorem dX5_tellPipeline_4 : decode cX5_tellPipeline 4 = .ok (.invokevirtual 263, 3) := by decide +kernel
theorem dX5_tellPipeline_7 : decode cX5_tellPipeline 7 = .ok (.aload_n 1, 1) := by decide +kernel
theorem dX5_tellPipeline_8 : decode cX5_tellPipeline 8 = .ok (.astore_n 2, 1) := by decide +kernel
theorem dX5_tellPipeline_9 : decode cX5_tellPipeline 9 = .ok (.aload_n 2, 1) := by decide +kernel
theorem dX5_tellPipeline_10 : decode cX5_tellPipeline 10 = .ok (.ifnull 26, 3) := by decide +kernel
theorem dX5_tellPipeline_13 : decode cX5_tellPipeline 13 = .ok (.aload_n 0, 1) := by decide +kernel
theorem dX5_tellPipeline_14 : decode cX5_tellPipeline 14 = .ok (.getfield 38, 3) := by decide +kernel
theorem dX5_tellPipeline_17 : decode cX5_tellPipeline 17 = .ok (.aload_n 2, 1) := by decide +kernel
theorem dX5_tellPipeline_18 : decode cX5_tellPipeline 18 = .ok (.aload_n 2, 1) := by decide +kernel
theorem dX5_tellPipeline_19 : decode cX5_tellPipeline 19 = .ok (.invokestatic 128, 3) := by decide +kernel
theorem dX5_tellPipeline_22 : decode cX5_tellPipeline 22 = .ok (.invokevirtual 266, 3) := by decide +kernel
theorem dX5_tellPipeline_25 : decode cX5_tellPipeline 25 = .ok (.invokevirtual 270, 3) := by decide +kernel
theorem dX5_tellPipeline_28 : decode cX5_tellPipeline 28 = .ok (.aload_n 2, 1) := by decide +kernel
theorem dX5_tellPipeline_29 : decode cX5_tellPipeline 29 = .ok (.getfield 95, 3) := by decide +kernel
theorem dX5_tellPipeline_32 : decode cX5_tellPipeline 32 = .ok (.astore_n 2, 1) := by decide +kernel
theorem dX5_tellPipeline_33 : decode cX5_tellPipeline 33 = .ok (.goto (-24), 3) := by decide +kernel
theorem dX5_tellPipeline_36 : decode cX5_tellPipeline 36 = .ok (.return_, 1) := by decide +kernel
theorem dX6_init_0 : decode cX6_init 0 = .ok (.aload_n 0, 1) := by decide +kernel
theorem dX6_init_1 : decode cX6_init 1 = .ok (.invokespecial 1, 3) := by decide +kernel
theorem dX6_init_4 : decode cX6_init 4 = .ok (.aload_n 0, 1) := by decide +kernel
theorem dX6_init_5 : decode cX6_init 5 = .ok (.sipush 1000, 3) := by decide +kernel
theorem dX6_init_8 : decode cX6_init 8 = .ok (.putfield 7, 3) := by decide +kernel
theorem dX6_init_11 : decode cX6_init 11 = .ok (.aload_n 0, 1) := by decide +kernel
theorem dX6_init_12 : decode cX6_init 12 = .ok (.sipush 768, 3) := by decide +kernel
theorem dX6_init_15 : decode cX6_init 15 = .ok (.newarray .int, 2) := by decide +kernel
theorem dX6_init_17 : decode cX6_init 17 = .ok (.putfield 13, 3) := by decide +kernel
theorem dX6_init_20 : decode cX6_init 20 = .ok (.aload_n 0, 1) := by decide +kernel
theorem dX6_init_21 : decode cX6_init 21 = .ok (.sipush 768, 3) := by decide +kernel
theorem dX6_init_24 : decode cX6_init 24 = .ok (.newarray .int, 2) := by decide +kernel
theorem dX6_init_26 : decode cX6_init 26 = .ok (.putfield 17, 3) := by decide +kernel
theorem dX6_init_29 : decode cX6_init 29 = .ok (.aload_n 0, 1) := by decide +kernel
theorem dX6_init_30 : decode cX6_init 30 = .ok (.sipush 768, 3) := by decide +kernel
theorem dX6_init_33 : decode cX6_init 33 = .ok (.newarray .int, 2) := by decide +kernel
theorem dX6_init_35 : decode cX6_init 35 = .ok (.putfield 20, 3) := by decide +kernel
theorem dX6_init_38 : decode cX6_init 38 = .ok (.aload_n 0, 1) := by decide +kernel
theorem dX6_init_39 : decode cX6_init 39 = .ok (.sipush 768, 3) := by decide +kernel
theorem dX6_init_42 : decode cX6_init 42 = .ok (.newarray .boolean, 2) := by decide +kernel
theorem dX6_init_44 : decode cX6_init 44 = .ok (.putfield 23, 3) := by decide +kernel
theorem dX6_init_47 : decode cX6_init 47 = .ok (.aload_n 0, 1) := by decide +kernel
theorem dX6_init_48 : decode cX6_init 48 = .ok (.sipush 768, 3) := by decide +kernel
theorem dX6_init_51 : decode cX6_init 51 = .ok (.newarray .boolean, 2) := by decide +kernel
theorem dX6_init_53 : decode cX6_init 53 = .ok (.putfield 27, 3) := by decide +kernel
theorem dX6_init_56 : decode cX6_init 56 = .ok (.aload_n 0, 1) := by decide +kernel
theorem dX6_init_57 : decode cX6_init 57 = .ok (.bipush 6, 2) := by decide +kernel
theorem dX6_init_59 : decode cX6_init 59 = .ok (.newarray .int, 2) := by decide +kernel
theorem dX6_init_61 : decode cX6_init 61 = .ok (.putfield 30, 3) := by decide +kernel
theorem dX6_init_64 : decode cX6_init 64 = .ok (.aload_n 0, 1) := by decide +kernel
theorem dX6_init_65 : decode cX6_init 65 = .ok (.bipush 6, 2) := by decide +kernel
theorem dX6_init_67 : decode cX6_init 67 = .ok (.newarray .int, 2) := by decide +kernel
theorem dX6_init_69 : decode cX6_init 69 = .ok (.putfield 33, 3) := by decide +kernel
theorem dX6_init_72 : decode cX6_init 72 = .ok (.aload_n 0, 1) := by decide +kernel
theorem dX6_init_73 : decode cX6_init 73 = .ok (.bipush 96, 2) := by decide +kernel
theorem dX6_init_75 : decode cX6_init 75 = .ok (.newarray .int, 2) := by decide +kernel
theorem dX6_init_77 : decode cX6_init 77 = .ok (.putfield 36, 3) := by decide +kernel
theorem dX6_init_80 : decode cX6_init 80 = .ok (.aload_n 0, 1) := by decide +kernel
theorem dX6_init_81 : decode cX6_init 81 = .ok (.bipush 6, 2) := by decide +kernel
theorem dX6_init_83 : decode cX6_init 83 = .ok (.newarray .boolean, 2) := by decide +kernel
theorem dX6_init_85 : decode cX6_init 85 = .ok (.putfield 39, 3) := by decide +kernel
theorem dX6_init_88 : decode cX6_init 88 = .ok (.aload_n 0, 1) := by decide +kernel
theorem dX6_init_89 : decode cX6_init 89 = .ok (.bipush 6, 2) := by decide +kernel
theorem dX6_init_91 : decode cX6_init 91 = .ok (.newarray .int, 2) := by decide +kernel
theorem dX6_init_93 : decode cX6_init 93 = .ok (.putfield 42, 3) := by decide +kernel
theorem dX6_init_96 : decode cX6_init 96 = .ok (.aload_n 0, 1) := by decide +kernel
theorem dX6_init_97 : decode cX6_init 97 = .ok (.bipush 6, 2) := by decide +kernel
theorem dX6_init_99 : decode cX6_init 99 = .ok (.newarray .int, 2) := by decide +kernel
theorem dX6_init_101 : decode cX6_init 101 = .ok (.putfield 45, 3) := by decide +kernel
theorem dX6_init_104 : decode cX6_init 104 = .ok (.aload_n 0, 1) := by decide +kernel
theorem dX6_init_105 : decode cX6_init 105 = .ok (.bipush 6, 2) := by decide +kernel
theorem dX6_init_107 : decode cX6_init 107 = .ok (.newarray .int, 2) := by decide +kernel
theorem dX6_init_109 : decode cX6_init 109 = .ok (.putfield 48, 3) := by decide +kernel
theorem dX6_init_112 : decode cX6_init 112 = .ok (.aload_n 0, 1) := by decide +kernel
theorem dX6_init_113 : decode cX6_init 113 = .ok (.sipush 192, 3) := by decide +kernel
theorem dX6_init_116 : decode cX6_init 116 = .ok (.newarray .int, 2) := by decide +kernel
theorem dX6_init_118 : decode cX6_init 118 = .ok (.putfield 51, 3) := by decide +kernel
theorem dX6_init_121 : decode cX6_init 121 = .ok (.aload_n 0, 1) := by decide +kernel
theorem dX6_init_122 : decode cX6_init 122 = .ok (.bipush 6, 2) := by decide +kernel
theorem dX6_init_124 : decode cX6_init 124 = .ok (.newarray .int, 2) := by decide +kernel
theorem dX6_init_126 : decode cX6_init 126 = .ok (.putfield 54, 3) := by decide +kernel
theorem dX6_init_129 : decode cX6_init 129 = .ok (.aload_n 0, 1) := by decide +kernel
theorem dX6_init_130 : decode cX6_init 130 = .ok (.bipush 6, 2) := by decide +kernel
theorem dX6_init_132 : decode cX6_init 132 = .ok (.newarray .int, 2) := by decide +kernel
theorem dX6_init_134 : decode cX6_init 134 = .ok (.putfield 57, 3) := by decide +kernel
theorem dX6_init_137 : decode cX6_init 137 = .ok (.aload_n 0, 1) := by decide +kernel
theorem dX6_init_138 : decode cX6_init 138 = .ok (.bipush 6, 2) := by decide +kernel
theorem dX6_init_140 : decode cX6_init 140 = .ok (.newarray .int, 2) := by decide +kernel
theorem dX6_init_142 : decode cX6_init 142 = .ok (.putfield 60, 3) := by decide +kernel
theorem dX6_init_145 : decode cX6_init 145 = .ok (.aload_n 0, 1) := by decide +kernel
theorem dX6_init_146 : decode cX6_init 146 = .ok (.bipush 48, 2) := by decide +kernel
theorem dX6_init_148 : decode cX6_init 148 = .ok (.newarray .int, 2) := by decide +kernel
theorem dX6_init_150 : decode cX6_init 150 = .ok (.putfield 63, 3) := by decide +kernel
theorem dX6_init_153 : decode cX6_init 153 = .ok (.aload_n 0, 1) := by decide +kernel
theorem dX6_init_154 : decode cX6_init 154 = .ok (.bipush 64, 2) := by decide +kernel
theorem dX6_init_156 : decode cX6_init 156 = .ok (.newarray .int, 2) := by decide +kernel
theorem dX6_init_158 : decode cX6_init 158 = .ok (.putfield 66, 3) := by decide +kernel
theorem dX6_init_161 : decode cX6_init 161 = .ok (.aload_n 0, 1) := by decide +kernel
theorem dX6_init_162 : decode cX6_init 162 = .ok (.sipush 256, 3) := by decide +kernel
theorem dX6_init_165 : decode cX6_init 165 = .ok (.newarray .int, 2) := by decide +kernel
theorem dX6_init_167 : decode cX6_init 167 = .ok (.putfield 69, 3) := by decide +kernel
theorem dX6_init_170 : decode cX6_init 170 = .ok (.aload_n 0, 1) := by decide +kernel
theorem dX6_init_171 : decode cX6_init 171 = .ok (.bipush 6, 2) := by decide +kernel
theorem dX6_init_173 : decode cX6_init 173 = .ok (.newarray .int, 2) := by decide +kernel
theorem dX6_init_175 : decode cX6_init 175 = .ok (.putfield 72, 3) := by decide +kernel
theorem dX6_init_178 : decode cX6_init 178 = .ok (.iconst 0, 1) := by decide +kernel
theorem dX6_init_179 : decode cX6_init 179 = .ok (.istore_n 1, 1) := by decide +kernel
theorem dX6_init_180 : decode cX6_init 180 = .ok (.iload_n 1, 1) := by decide +kernel
theorem dX6_init_181 : decode cX6_init 181 = .ok (.bipush 6, 2) := by decide +kernel
theorem dX6_init_183 : decode cX6_init 183 = .ok (.if_icmp .ge 31, 3) := by decide +kernel
theorem dX6_init_186 : decode cX6_init 186 = .ok (.aload_n 0, 1) := by decide +kernel
theorem dX6_init_187 : decode cX6_init 187 = .ok (.getfield 30, 3) := by decide +kernel
theorem dX6_init_190 : decode cX6_init 190 = .ok (.iload_n 1, 1) := by decide +kernel
theorem dX6_init_191 : decode cX6_init 191 = .ok (.iconst 1, 1) := by decide +kernel
theorem dX6_init_192 : decode cX6_init 192 = .ok (.iastore, 1) := by decide +kernel
theorem dX6_init_193 : decode cX6_init 193 = .ok (.aload_n 0, 1) := by decide +kernel
theorem dX6_init_194 : decode cX6_init 194 = .ok (.getfield 33, 3) := by decide +kernel
theorem dX6_init_197 : decode cX6_init 197 = .ok (.iload_n 1, 1) := by decide +kernel
theorem dX6_init_198 : decode cX6_init 198 = .ok (.bipush 127, 2) := by decide +kernel
theorem dX6_init_200 : decode cX6_init 200 = .ok (.iastore, 1) := by decide +kernel
theorem dX6_init_201 : decode cX6_init 201 = .ok (.aload_n 0, 1) := by decide +kernel
theorem dX6_init_202 : decode cX6_init 202 = .ok (.getfield 42, 3) := by decide +kernel
theorem dX6_init_205 : decode cX6_init 205 = .ok (.iload_n 1, 1) := by decide +kernel
theorem dX6_init_206 : decode cX6_init 206 = .ok (.iconst 4, 1) := by decide +kernel
theorem dX6_init_207 : decode cX6_init 207 = .ok (.iastore, 1) := by decide +kernel
theorem dX6_init_208 : decode cX6_init 208 = .ok (.iinc 1 1, 3) := by decide +kernel
theorem dX6_init_211 : decode cX6_init 211 = .ok (.goto (-31), 3) := by decide +kernel
theorem dX6_init_214 : decode cX6_init 214 = .ok (.return_, 1) := by decide +kernel
theorem dX6_thrown_0 : decode cX6_thrown 0 = .ok (.aload_n 0, 1) := by decide +kernel
theorem dX6_thrown_1 : decode cX6_thrown 1 = .ok (.getfield 75, 3) := by decide +kernel
theorem dX6_thrown_4 : decode cX6_thrown 4 = .ok (.ireturn, 1) := by decide +kernel
theorem dX6_in_0 : decode cX6_in 0 = .ok (.iload_n 0, 1) := by decide +kernel
theorem dX6_in_1 : decode cX6_in 1 = .ok (.iload_n 1, 1) := by decide +kernel
theorem dX6_in_2 : decode cX6_in 2 = .ok (.if_icmp .lt 12, 3) := by decide +kernel
theorem dX6_in_5 : decode cX6_in 5 = .ok (.iload_n 0, 1) := by decide +kernel
theorem dX6_in_6 : decode cX6_in 6 = .ok (.iload_n 2, 1) := by decide +kernel
theorem dX6_in_7 : decode cX6_in 7 = .ok (.if_icmp .gt 7, 3) := by decide +kernel
theorem dX6_in_10 : decode cX6_in 10 = .ok (.iconst 1, 1) := by decide +kernel
theorem dX6_in_11 : decode cX6_in 11 = .ok (.goto 4, 3) := by decide +kernel
theorem dX6_in_14 : decode cX6_in 14 = .ok (.iconst 0, 1) := by decide +kernel
theorem dX6_in_15 : decode cX6_in 15 = .ok (.ireturn, 1) := by decide +kernel
set_option maxRecDepth 20000 in
theorem ggX6_isLayer_X6_in : GoodIn wsX6_isLayer wsX6_in := goodIn_r _ [5] (by decide +kernel) (by decide +kernel)
set_option maxRecDepth 20000 in
theorem gX6_isLayer_X6_in : GoodIn wsX6_isLayer (va_wsS RX6 81 yX6_in wsX6_in) := goodIn_app (goodIn_of _ (by decide +kernel)) ggX6_isLayer_X6_in
theorem dX6_isLayer_0 : decode cX6_isLayer 0 = .ok (.iload_n 1, 1) := by decide +kernel
theorem dX6_isLayer_1 : decode cX6_isLayer 1 = .ok (.iconst 0, 1) := by decide +kernel
theorem dX6_isLayer_2 : decode cX6_isLayer 2 = .ok (.aload_n 0, 1) := by decide +kernel
theorem dX6_isLayer_3 : decode cX6_isLayer 3 = .ok (.getfield 78, 3) := by decide +kernel
theorem dX6_isLayer_6 : decode cX6_isLayer 6 = .ok (.iconst 1, 1) := by decide +kernel
theorem dX6_isLayer_7 : decode cX6_isLayer 7 = .ok (.isub, 1) := by decide +kernel
theorem dX6_isLayer_8 : decode cX6_isLayer 8 = .ok (.invokestatic 81, 3) := by decide +kernel
theorem dX6_isLayer_11 : decode cX6_isLayer 11 = .ok (.ireturn, 1) := by decide +kernel
set_option maxRecDepth 20000 in
theorem ggX6_isTile_X6_in : GoodIn wsX6_isTile wsX6_in := goodIn_r _ [4] (by decide +kernel) (by decide +kernel)
set_option maxRecDepth 20000 in
theorem gX6_isTile_X6_in : GoodIn wsX6_isTile (va_wsS RX6 81 yX6_in wsX6_in) := goodIn_app (goodIn_of _ (by decide +kernel)) ggX6_isTile_X6_in
theorem dX6_isTile_0 : decode cX6_isTile 0 = .ok (.iload_n 0, 1) := by decide +kernel
theorem dX6_isTile_1 : decode cX6_isTile 1 = .ok (.iconst 0, 1) := by decide +kernel
theorem dX6_isTile_2 : decode cX6_isTile 2 = .ok (.iconst 5, 1) := by decide +kernel
theorem dX6_isTile_3 : decode cX6_isTile 3 = .ok (.invokestatic 81, 3) := by decide +kernel
theorem dX6_isTile_6 : decode cX6_isTile 6 = .ok (.ireturn, 1) := by decide +kernel
set_option maxRecDepth 20000 in
theorem ggX6_isCell_X6_isTile : GoodIn wsX6_isCell wsX6_isTile := goodIn_r _ [4, 5, 6, 3, 7] (by decide +kernel) (by decide +kernel)
set_option maxRecDepth 20000 in
theorem gX6_isCell_X6_isTile : GoodIn wsX6_isCell (va_wsS RX6 85 yX6_isTile wsX6_isTile) := goodIn_app (goodIn_of _ (by decide +kernel)) ggX6_isCell_X6_isTile
set_option maxRecDepth 20000 in
theorem ggX6_isCell_X6_in : GoodIn wsX6_isCell wsX6_in := goodIn_r _ [7] (by decide +kernel) (by decide +kernel)
set_option maxRecDepth 20000 in
theorem gX6_isCell_X6_in : GoodIn wsX6_isCell (va_wsS RX6 81 yX6_in wsX6_in) := goodIn_app (goodIn_of _ (by decide +kernel)) ggX6_isCell_X6_in
theorem dX6_isCell_0 : decode cX6_isCell 0 = .ok (.iload_n 0, 1) := by decide +kernel
theorem dX6_isCell_1 : decode cX6_isCell 1 = .ok (.invokestatic 85, 3) := by decide +kernel
theorem dX6_isCell_4 : decode cX6_isCell 4 = .ok (.ifCond .eq 27, 3) := by decide +kernel
theorem dX6_isCell_7 : decode cX6_isCell 7 = .ok (.iload_n 1, 1) := by decide +kernel
theorem dX6_isCell_8 : decode cX6_isCell 8 = .ok (.iconst 0, 1) := by decide +kernel
theorem dX6_isCell_9 : decode cX6_isCell 9 = .ok (.bipush 7, 2) := by decide +kernel
theorem dX6_isCell_11 : decode cX6_isCell 11 = .ok (.invokestatic 81, 3) := by decide +kernel
theorem dX6_isCell_14 : decode cX6_isCell 14 = .ok (.ifCond .eq 17, 3) := by decide +kernel
theorem dX6_isCell_17 : decode cX6_isCell 17 = .ok (.iload_n 2, 1) := by decide +kernel
theorem dX6_isCell_18 : decode cX6_isCell 18 = .ok (.iconst 0, 1) := by decide +kernel
theorem dX6_isCell_19 : decode cX6_isCell 19 = .ok (.bipush 15, 2) := by decide +kernel
theorem dX6_isCell_21 : decode cX6_isCell 21 = .ok (.invokestatic 81, 3) := by decide +kernel
theorem dX6_isCell_24 : decode cX6_isCell 24 = .ok (.ifCond .eq 7, 3) := by decide +kernel
theorem dX6_isCell_27 : decode cX6_isCell 27 = .ok (.iconst 1, 1) := by decide +kernel
theorem dX6_isCell_28 : decode cX6_isCell 28 = .ok (.goto 4, 3) := by decide +kernel
theorem dX6_isCell_31 : decode cX6_isCell 31 = .ok (.iconst 0, 1) := by decide +kernel
theorem dX6_isCell_32 : decode cX6_isCell 32 = .ok (.ireturn, 1) := by decide +kernel
theorem dX6_cellAt_0 : decode cX6_cellAt 0 = .ok (.sipush 128, 3) := by decide +kernel
theorem dX6_cellAt_3 : decode cX6_cellAt 3 = .ok (.iload_n 0, 1) := by decide +kernel
theorem dX6_cellAt_4 : decode cX6_cellAt 4 = .ok (.imul, 1) := by decide +kernel
theorem dX6_cellAt_5 : decode cX6_cellAt 5 = .ok (.bipush 16, 2) := by decide +kernel
theorem dX6_cellAt_7 : decode cX6_cellAt 7 = .ok (.iload_n 1, 1) := by decide +kernel
theorem dX6_cellAt_8 : decode cX6_cellAt 8 = .ok (.imul, 1) := by decide +kernel
theorem dX6_cellAt_9 : decode cX6_cellAt 9 = .ok (.iadd, 1) := by decide +kernel
theorem dX6_cellAt_10 : decode cX6_cellAt 10 = .ok (.iload_n 2, 1) := by decide +kernel
theorem dX6_cellAt_11 : decode cX6_cellAt 11 = .ok (.iadd, 1) := by decide +kernel
theorem dX6_cellAt_12 : decode cX6_cellAt 12 = .ok (.ireturn, 1) := by decide +kernel
theorem dX6_conducts_0 : decode cX6_conducts 0 = .ok (.aload_n 0, 1) := by decide +kernel
theorem dX6_conducts_1 : decode cX6_conducts 1 = .ok (.getfield 89, 3) := by decide +kernel
theorem dX6_conducts_4 : decode cX6_conducts 4 = .ok (.ifCond .eq 12, 3) := by decide +kernel
theorem dX6_conducts_7 : decode cX6_conducts 7 = .ok (.aload_n 0, 1) := by decide +kernel
theorem dX6_conducts_8 : decode cX6_conducts 8 = .ok (.getfield 23, 3) := by decide +kernel
theorem dX6_conducts_11 : decode cX6_conducts 11 = .ok (.iload_n 1, 1) := by decide +kernel
theorem dX6_conducts_12 : decode cX6_conducts 12 = .ok (.baload, 1) := by decide +kernel
theorem dX6_conducts_13 : decode cX6_conducts 13 = .ok (.ifCond .eq 10, 3) := by decide +kernel
theorem dX6_conducts_16 : decode cX6_conducts 16 = .ok (.aload_n 0, 1) := by decide +kernel
theorem dX6_conducts_17 : decode cX6_conducts 17 = .ok (.getfield 13, 3) := by decide +kernel
theorem dX6_conducts_20 : decode cX6_conducts 20 = .ok (.iload_n 1, 1) := by decide +kernel
theorem dX6_conducts_21 : decode cX6_conducts 21 = .ok (.iaload, 1) := by decide +kernel
theorem dX6_conducts_22 : decode cX6_conducts 22 = .ok (.ireturn, 1) := by decide +kernel
theorem dX6_conducts_23 : decode cX6_conducts 23 = .ok (.aload_n 0, 1) := by decide +kernel
theorem dX6_conducts_24 : decode cX6_conducts 24 = .ok (.getfield 13, 3) := by decide +kernel
theorem dX6_conducts_27 : decode cX6_conducts 27 = .ok (.iload_n 1, 1) := by decide +kernel
theorem dX6_conducts_28 : decode cX6_conducts 28 = .ok (.iaload, 1) := by decide +kernel
theorem dX6_conducts_29 : decode cX6_conducts 29 = .ok (.aload_n 0, 1) := by decide +kernel
theorem dX6_conducts_30 : decode cX6_conducts 30 = .ok (.getfield 92, 3) := by decide +kernel
theorem dX6_conducts_33 : decode cX6_conducts 33 = .ok (.aload_n 0, 1) := by decide +kernel
theorem dX6_conducts_34 : decode cX6_conducts 34 = .ok (.getfield 20, 3) := by decide +kernel
theorem dX6_conducts_37 : decode cX6_conducts 37 = .ok (.iload_n 1, 1) := by decide +kernel
theorem dX6_conducts_38 : decode cX6_conducts 38 = .ok (.iaload, 1) := by decide +kernel
theorem dX6_conducts_39 : decode cX6_conducts 39 = .ok (.isub, 1) := by decide +kernel
theorem dX6_conducts_40 : decode cX6_conducts 40 = .ok (.aload_n 0, 1) := by decide +kernel
theorem dX6_conducts_41 : decode cX6_conducts 41 = .ok (.getfield 89, 3) := by decide +kernel
theorem dX6_conducts_44 : decode cX6_conducts 44 = .ok (.idiv, 1) := by decide +kernel
theorem dX6_conducts_45 : decode cX6_conducts 45 = .ok (.isub, 1) := by decide +kernel
theorem dX6_conducts_46 : decode cX6_conducts 46 = .ok (.istore_n 2, 1) := by decide +kernel
theorem dX6_conducts_47 : decode cX6_conducts 47 = .ok (.iload_n 2, 1) := by decide +kernel
theorem dX6_conducts_48 : decode cX6_conducts 48 = .ok (.ifCond .ge 7, 3) := by decide +kernel
theorem dX6_conducts_51 : decode cX6_conducts 51 = .ok (.iconst 0, 1) := by decide +kernel
theorem dX6_conducts_52 : decode cX6_conducts 52 = .ok (.goto 4, 3) := by decide +kernel
theorem dX6_conducts_55 : decode cX6_conducts 55 = .ok (.iload_n 2, 1) := by decide +kernel
theorem dX6_conducts_56 : decode cX6_conducts 56 = .ok (.ireturn, 1) := by decide +kernel
set_option maxRecDepth 20000 in
theorem ggX6_writes_X6_conducts : GoodIn wsX6_writes wsX6_conducts := goodIn_r _ [12, 13, 1, 2, 4, 3, 14, 15, 16, 17, 18, 19, 20, 21, 22, 23, 24, 25, 26, 27, 28, 29, 30, 31, 32, 33, 34, 35, 36, 37, 38] (by decide +kernel) (by decide +kernel)
set_option maxRecDepth 20000 in
theorem gX6_writes_X6_conducts : GoodIn wsX6_writes (wsV RX6 95 RX6 yX6_conducts wsX6_conducts) := goodIn_app (goodIn_of _ (by decide +kernel)) ggX6_writes_X6_conducts
theorem dX6_writes_0 : decode cX6_writes 0 = .ok (.aload_n 0, 1) := by decide +kernel
theorem dX6_writes_1 : decode cX6_writes 1 = .ok (.getfield 23, 3) := by decide +kernel
theorem dX6_writes_4 : decode cX6_writes 4 = .ok (.iload_n 1, 1) := by decide +kernel
theorem dX6_writes_5 : decode cX6_writes 5 = .ok (.baload, 1) := by decide +kernel
theorem dX6_writes_6 : decode cX6_writes 6 = .ok (.ifCond .ne 24, 3) := by decide +kernel
theorem dX6_writes_9 : decode cX6_writes 9 = .ok (.aload_n 0, 1) := by decide +kernel
theorem dX6_writes_10 : decode cX6_writes 10 = .ok (.getfield 13, 3) := by decide +kernel
theorem dX6_writes_13 : decode cX6_writes 13 = .ok (.iload_n 1, 1) := by decide +kernel
theorem dX6_writes_14 : decode cX6_writes 14 = .ok (.aload_n 0, 1) := by decide +kernel
theorem dX6_writes_15 : decode cX6_writes 15 = .ok (.iload_n 1, 1) := by decide +kernel
theorem dX6_writes_16 : decode cX6_writes 16 = .ok (.invokevirtual 95, 3) := by decide +kernel
theorem dX6_writes_19 : decode cX6_writes 19 = .ok (.iastore, 1) := by decide +kernel
theorem dX6_writes_20 : decode cX6_writes 20 = .ok (.aload_n 0, 1) := by decide +kernel
theorem dX6_writes_21 : decode cX6_writes 21 = .ok (.getfield 20, 3) := by decide +kernel
theorem dX6_writes_24 : decode cX6_writes 24 = .ok (.iload_n 1, 1) := by decide +kernel
theorem dX6_writes_25 : decode cX6_writes 25 = .ok (.aload_n 0, 1) := by decide +kernel
theorem dX6_writes_26 : decode cX6_writes 26 = .ok (.getfield 92, 3) := by decide +kernel
theorem dX6_writes_29 : decode cX6_writes 29 = .ok (.iastore, 1) := by decide +kernel
theorem dX6_writes_30 : decode cX6_writes 30 = .ok (.iconst 0, 1) := by decide +kernel
theorem dX6_writes_31 : decode cX6_writes 31 = .ok (.istore_n 3, 1) := by decide +kernel
theorem dX6_writes_32 : decode cX6_writes 32 = .ok (.iload_n 3, 1) := by decide +kernel
theorem dX6_writes_33 : decode cX6_writes 33 = .ok (.bipush 16, 2) := by decide +kernel
theorem dX6_writes_35 : decode cX6_writes 35 = .ok (.if_icmp .ge 115, 3) := by decide +kernel
theorem dX6_writes_38 : decode cX6_writes 38 = .ok (.aload_n 0, 1) := by decide +kernel
theorem dX6_writes_39 : decode cX6_writes 39 = .ok (.getfield 13, 3) := by decide +kernel
theorem dX6_writes_42 : decode cX6_writes 42 = .ok (.iload_n 1, 1) := by decide +kernel
theorem dX6_writes_43 : decode cX6_writes 43 = .ok (.iaload, 1) := by decide +kernel
theorem dX6_writes_44 : decode cX6_writes 44 = .ok (.iload_n 2, 1) := by decide +kernel
theorem dX6_writes_45 : decode cX6_writes 45 = .ok (.if_icmp .eq 105, 3) := by decide +kernel
theorem dX6_writes_48 : decode cX6_writes 48 = .ok (.aload_n 0, 1) := by decide +kernel
theorem dX6_writes_49 : decode cX6_writes 49 = .ok (.getfield 17, 3) := by decide +kernel
theorem dX6_writes_52 : decode cX6_writes 52 = .ok (.iload_n 1, 1) := by decide +kernel
theorem dX6_writes_53 : decode cX6_writes 53 = .ok (.dup2, 1) := by decide +kernel
theorem dX6_writes_54 : decode cX6_writes 54 = .ok (.iaload, 1) := by decide +kernel
theorem dX6_writes_55 : decode cX6_writes 55 = .ok (.iconst 1, 1) := by decide +kernel
theorem dX6_writes_56 : decode cX6_writes 56 = .ok (.iadd, 1) := by decide +kernel
theorem dX6_writes_57 : decode cX6_writes 57 = .ok (.iastore, 1) := by decide +kernel
theorem dX6_writes_58 : decode cX6_writes 58 = .ok (.aload_n 0, 1) := by decide +kernel
theorem dX6_writes_59 : decode cX6_writes 59 = .ok (.getfield 23, 3) := by decide +kernel
theorem dX6_writes_62 : decode cX6_writes 62 = .ok (.iload_n 1, 1) := by decide +kernel
theorem dX6_writes_63 : decode cX6_writes 63 = .ok (.baload, 1) := by decide +kernel
theorem dX6_writes_64 : decode cX6_writes 64 = .ok (.ifCond .ne 80, 3) := by decide +kernel
theorem dX6_writes_67 : decode cX6_writes 67 = .ok (.aload_n 0, 1) := by decide +kernel
theorem dX6_writes_68 : decode cX6_writes 68 = .ok (.getfield 13, 3) := by decide +kernel
theorem dX6_writes_71 : decode cX6_writes 71 = .ok (.iload_n 1, 1) := by decide +kernel
theorem dX6_writes_72 : decode cX6_writes 72 = .ok (.iaload, 1) := by decide +kernel
theorem dX6_writes_73 : decode cX6_writes 73 = .ok (.iconst 2, 1) := by decide +kernel
theorem dX6_writes_74 : decode cX6_writes 74 = .ok (.if_icmp .ge 7, 3) := by decide +kernel
theorem dX6_writes_77 : decode cX6_writes 77 = .ok (.iconst 0, 1) := by decide +kernel
theorem dX6_writes_78 : decode cX6_writes 78 = .ok (.goto 11, 3) := by decide +kernel
theorem dX6_writes_81 : decode cX6_writes 81 = .ok (.aload_n 0, 1) := by decide +kernel
theorem dX6_writes_82 : decode cX6_writes 82 = .ok (.getfield 13, 3) := by decide +kernel
theorem dX6_writes_85 : decode cX6_writes 85 = .ok (.iload_n 1, 1) := by decide +kernel
theorem dX6_writes_86 : decode cX6_writes 86 = .ok (.iaload, 1) := by decide +kernel
theorem dX6_writes_87 : decode cX6_writes 87 = .ok (.iconst 2, 1) := by decide +kernel
theorem dX6_writes_88 : decode cX6_writes 88 = .ok (.isub, 1) := by decide +kernel
theorem dX6_writes_89 : decode cX6_writes 89 = .ok (.istore 4, 2) := by decide +kernel
theorem dX6_writes_91 : decode cX6_writes 91 = .ok (.aload_n 0, 1) := by decide +kernel
theorem dX6_writes_92 : decode cX6_writes 92 = .ok (.getfield 13, 3) := by decide +kernel
theorem dX6_writes_95 : decode cX6_writes 95 = .ok (.iload_n 1, 1) := by decide +kernel
theorem dX6_writes_96 : decode cX6_writes 96 = .ok (.aload_n 0, 1) := by decide +kernel
theorem dX6_writes_97 : decode cX6_writes 97 = .ok (.getfield 13, 3) := by decide +kernel
theorem dX6_writes_100 : decode cX6_writes 100 = .ok (.iload_n 1, 1) := by decide +kernel
theorem dX6_writes_101 : decode cX6_writes 101 = .ok (.iaload, 1) := by decide +kernel
theorem dX6_writes_102 : decode cX6_writes 102 = .ok (.iload_n 2, 1) := by decide +kernel
theorem dX6_writes_103 : decode cX6_writes 103 = .ok (.if_icmp .ge 14, 3) := by decide +kernel
theorem dX6_writes_106 : decode cX6_writes 106 = .ok (.aload_n 0, 1) := by decide +kernel
theorem dX6_writes_107 : decode cX6_writes 107 = .ok (.getfield 13, 3) := by decide +kernel
theorem dX6_writes_110 : decode cX6_writes 110 = .ok (.iload_n 1, 1) := by decide +kernel
theorem dX6_writes_111 : decode cX6_writes 111 = .ok (.iaload, 1) := by decide +kernel
theorem dX6_writes_112 : decode cX6_writes 112 = .ok (.iconst 1, 1) := by decide +kernel
theorem dX6_writes_113 : decode cX6_writes 113 = .ok (.iadd, 1) := by decide +kernel
theorem dX6_writes_114 : decode cX6_writes 114 = .ok (.goto 5, 3) := by decide +kernel
theorem dX6_writes_117 : decode cX6_writes 117 = .ok (.iload 4, 2) := by decide +kernel
theorem dX6_writes_119 : decode cX6_writes 119 = .ok (.iastore, 1) := by decide +kernel
theorem dX6_writes_120 : decode cX6_writes 120 = .ok (.aload_n 0, 1) := by decide +kernel
theorem dX6_writes_121 : decode cX6_writes 121 = .ok (.getfield 23, 3) := by decide +kernel
theorem dX6_writes_124 : decode cX6_writes 124 = .ok (.iload_n 1, 1) := by decide +kernel
theorem dX6_writes_125 : decode cX6_writes 125 = .ok (.aload_n 0, 1) := by decide +kernel
theorem dX6_writes_126 : decode cX6_writes 126 = .ok (.getfield 17, 3) := by decide +kernel
theorem dX6_writes_129 : decode cX6_writes 129 = .ok (.iload_n 1, 1) := by decide +kernel
theorem dX6_writes_130 : decode cX6_writes 130 = .ok (.iaload, 1) := by decide +kernel
theorem dX6_writes_131 : decode cX6_writes 131 = .ok (.aload_n 0, 1) := by decide +kernel
theorem dX6_writes_132 : decode cX6_writes 132 = .ok (.getfield 7, 3) := by decide +kernel
theorem dX6_writes_135 : decode cX6_writes 135 = .ok (.if_icmp .lt 7, 3) := by decide +kernel
theorem dX6_writes_138 : decode cX6_writes 138 = .ok (.iconst 1, 1) := by decide +kernel
theorem dX6_writes_139 : decode cX6_writes 139 = .ok (.goto 4, 3) := by decide +kernel
theorem dX6_writes_142 : decode cX6_writes 142 = .ok (.iconst 0, 1) := by decide +kernel
theorem dX6_writes_143 : decode cX6_writes 143 = .ok (.bastore, 1) := by decide +kernel
theorem dX6_writes_144 : decode cX6_writes 144 = .ok (.iinc 3 1, 3) := by decide +kernel
theorem dX6_writes_147 : decode cX6_writes 147 = .ok (.goto (-115), 3) := by decide +kernel
theorem dX6_writes_150 : decode cX6_writes 150 = .ok (.aload_n 0, 1) := by decide +kernel
theorem dX6_writes_151 : decode cX6_writes 151 = .ok (.getfield 27, 3) := by decide +kernel
theorem dX6_writes_154 : decode cX6_writes 154 = .ok (.iload_n 1, 1) := by decide +kernel
theorem dX6_writes_155 : decode cX6_writes 155 = .ok (.aload_n 0, 1) := by decide +kernel
theorem dX6_writes_156 : decode cX6_writes 156 = .ok (.getfield 27, 3) := by decide +kernel
theorem dX6_writes_159 : decode cX6_writes 159 = .ok (.iload_n 1, 1) := by decide +kernel
theorem dX6_writes_160 : decode cX6_writes 160 = .ok (.baload, 1) := by decide +kernel
theorem dX6_writes_161 : decode cX6_writes 161 = .ok (.ifCond .ne 13, 3) := by decide +kernel
theorem dX6_writes_164 : decode cX6_writes 164 = .ok (.aload_n 0, 1) := by decide +kernel
theorem dX6_writes_165 : decode cX6_writes 165 = .ok (.getfield 13, 3) := by decide +kernel
theorem dX6_writes_168 : decode cX6_writes 168 = .ok (.iload_n 1, 1) := by decide +kernel
theorem dX6_writes_169 : decode cX6_writes 169 = .ok (.iaload, 1) := by decide +kernel
theorem dX6_writes_170 : decode cX6_writes 170 = .ok (.iload_n 2, 1) := by decide +kernel
theorem dX6_writes_171 : decode cX6_writes 171 = .ok (.if_icmp .eq 7, 3) := by decide +kernel
theorem dX6_writes_174 : decode cX6_writes 174 = .ok (.iconst 1, 1) := by decide +kernel
theorem dX6_writes_175 : decode cX6_writes 175 = .ok (.goto 4, 3) := by decide +kernel
theorem dX6_writes_178 : decode cX6_writes 178 = .ok (.iconst 0, 1) := by decide +kernel
theorem dX6_writes_179 : decode cX6_writes 179 = .ok (.bastore, 1) := by decide +kernel
theorem dX6_writes_180 : decode cX6_writes 180 = .ok (.aload_n 0, 1) := by decide +kernel
theorem dX6_writes_181 : decode cX6_writes 181 = .ok (.getfield 13, 3) := by decide +kernel
theorem dX6_writes_184 : decode cX6_writes 184 = .ok (.iload_n 1, 1) := by decide +kernel
theorem dX6_writes_185 : decode cX6_writes 185 = .ok (.iaload, 1) := by decide +kernel
theorem dX6_writes_186 : decode cX6_writes 186 = .ok (.iload_n 2, 1) := by decide +kernel
theorem dX6_writes_187 : decode cX6_writes 187 = .ok (.if_icmp .eq 7, 3) := by decide +kernel
theorem dX6_writes_190 : decode cX6_writes 190 = .ok (.iconst 1, 1) := by decide +kernel
theorem dX6_writes_191 : decode cX6_writes 191 = .ok (.goto 4, 3) := by decide +kernel
theorem dX6_writes_194 : decode cX6_writes 194 = .ok (.iconst 0, 1) := by decide +kernel
theorem dX6_writes_195 : decode cX6_writes 195 = .ok (.ireturn, 1) := by decide +kernel
set_option maxRecDepth 20000 in
theorem ggX6_layer_X6_in : GoodIn wsX6_layer wsX6_in := goodIn_r _ [10] (by decide +kernel) (by decide +kernel)
set_option maxRecDepth 20000 in
theorem gX6_layer_X6_in : GoodIn wsX6_layer (va_wsS RX6 81 yX6_in wsX6_in) := goodIn_app (goodIn_of _ (by decide +kernel)) ggX6_layer_X6_in
theorem dX6_layer_0 : decode cX6_layer 0 = .ok (.aload_n 0, 1) := by decide +kernel
theorem dX6_layer_1 : decode cX6_layer 1 = .ok (.iload_n 1, 1) := by decide +kernel
theorem dX6_layer_2 : decode cX6_layer 2 = .ok (.iconst 1, 1) := by decide +kernel
theorem dX6_layer_3 : decode cX6_layer 3 = .ok (.bipush 8, 2) := by decide +kernel
theorem dX6_layer_5 : decode cX6_layer 5 = .ok (.invokestatic 81, 3) := by decide +kernel
theorem dX6_layer_8 : decode cX6_layer 8 = .ok (.ifCond .eq 12, 3) := by decide +kernel
theorem dX6_layer_11 : decode cX6_layer 11 = .ok (.iload_n 2, 1) := by decide +kernel
theorem dX6_layer_12 : decode cX6_layer 12 = .ok (.iconst 1, 1) := by decide +kernel
theorem dX6_layer_13 : decode cX6_layer 13 = .ok (.iconst 4, 1) := by decide +kernel
theorem dX6_layer_14 : decode cX6_layer 14 = .ok (.invokestatic 81, 3) := by decide +kernel
theorem dX6_layer_17 : decode cX6_layer 17 = .ok (.ifCond .ne 7, 3) := by decide +kernel
theorem dX6_layer_20 : decode cX6_layer 20 = .ok (.iconst 1, 1) := by decide +kernel
theorem dX6_layer_21 : decode cX6_layer 21 = .ok (.goto 17, 3) := by decide +kernel
theorem dX6_layer_24 : decode cX6_layer 24 = .ok (.aload_n 0, 1) := by decide +kernel
theorem dX6_layer_25 : decode cX6_layer 25 = .ok (.getfield 78, 3) := by decide +kernel
theorem dX6_layer_28 : decode cX6_layer 28 = .ok (.bipush 6, 2) := by decide +kernel
theorem dX6_layer_30 : decode cX6_layer 30 = .ok (.if_icmp .ne 7, 3) := by decide +kernel
theorem dX6_layer_33 : decode cX6_layer 33 = .ok (.iconst 2, 1) := by decide +kernel
theorem dX6_layer_34 : decode cX6_layer 34 = .ok (.goto 4, 3) := by decide +kernel
theorem dX6_layer_37 : decode cX6_layer 37 = .ok (.iconst 0, 1) := by decide +kernel
theorem dX6_layer_38 : decode cX6_layer 38 = .ok (.putfield 75, 3) := by decide +kernel
theorem dX6_layer_41 : decode cX6_layer 41 = .ok (.aload_n 0, 1) := by decide +kernel
theorem dX6_layer_42 : decode cX6_layer 42 = .ok (.getfield 75, 3) := by decide +kernel
theorem dX6_layer_45 : decode cX6_layer 45 = .ok (.ifCond .le 5, 3) := by decide +kernel
theorem dX6_layer_48 : decode cX6_layer 48 = .ok (.iconst 0, 1) := by decide +kernel
theorem dX6_layer_49 : decode cX6_layer 49 = .ok (.ireturn, 1) := by decide +kernel
theorem dX6_layer_50 : decode cX6_layer 50 = .ok (.aload_n 0, 1) := by decide +kernel
theorem dX6_layer_51 : decode cX6_layer 51 = .ok (.getfield 45, 3) := by decide +kernel
theorem dX6_layer_54 : decode cX6_layer 54 = .ok (.aload_n 0, 1) := by decide +kernel
theorem dX6_layer_55 : decode cX6_layer 55 = .ok (.getfield 78, 3) := by decide +kernel
theorem dX6_layer_58 : decode cX6_layer 58 = .ok (.iload_n 1, 1) := by decide +kernel
theorem dX6_layer_59 : decode cX6_layer 59 = .ok (.iastore, 1) := by decide +kernel
theorem dX6_layer_60 : decode cX6_layer 60 = .ok (.aload_n 0, 1) := by decide +kernel
theorem dX6_layer_61 : decode cX6_layer 61 = .ok (.getfield 48, 3) := by decide +kernel
theorem dX6_layer_64 : decode cX6_layer 64 = .ok (.aload_n 0, 1) := by decide +kernel
theorem dX6_layer_65 : decode cX6_layer 65 = .ok (.getfield 78, 3) := by decide +kernel
theorem dX6_layer_68 : decode cX6_layer 68 = .ok (.iload_n 2, 1) := by decide +kernel
theorem dX6_layer_69 : decode cX6_layer 69 = .ok (.iastore, 1) := by decide +kernel
theorem dX6_layer_70 : decode cX6_layer 70 = .ok (.aload_n 0, 1) := by decide +kernel
theorem dX6_layer_71 : decode cX6_layer 71 = .ok (.getfield 57, 3) := by decide +kernel
theorem dX6_layer_74 : decode cX6_layer 74 = .ok (.aload_n 0, 1) := by decide +kernel
theorem dX6_layer_75 : decode cX6_layer 75 = .ok (.getfield 78, 3) := by decide +kernel
theorem dX6_layer_78 : decode cX6_layer 78 = .ok (.iconst (-1), 1) := by decide +kernel
theorem dX6_layer_79 : decode cX6_layer 79 = .ok (.iastore, 1) := by decide +kernel
theorem dX6_layer_80 : decode cX6_layer 80 = .ok (.aload_n 0, 1) := by decide +kernel
theorem dX6_layer_81 : decode cX6_layer 81 = .ok (.getfield 60, 3) := by decide +kernel
theorem dX6_layer_84 : decode cX6_layer 84 = .ok (.aload_n 0, 1) := by decide +kernel
theorem dX6_layer_85 : decode cX6_layer 85 = .ok (.getfield 78, 3) := by decide +kernel
theorem dX6_layer_88 : decode cX6_layer 88 = .ok (.iconst (-1), 1) := by decide +kernel
theorem dX6_layer_89 : decode cX6_layer 89 = .ok (.iastore, 1) := by decide +kernel
theorem dX6_layer_90 : decode cX6_layer 90 = .ok (.aload_n 0, 1) := by decide +kernel
theorem dX6_layer_91 : decode cX6_layer 91 = .ok (.dup, 1) := by decide +kernel
theorem dX6_layer_92 : decode cX6_layer 92 = .ok (.getfield 78, 3) := by decide +kernel
theorem dX6_layer_95 : decode cX6_layer 95 = .ok (.iconst 1, 1) := by decide +kernel
theorem dX6_layer_96 : decode cX6_layer 96 = .ok (.iadd, 1) := by decide +kernel
theorem dX6_layer_97 : decode cX6_layer 97 = .ok (.putfield 78, 3) := by decide +kernel
theorem dX6_layer_100 : decode cX6_layer 100 = .ok (.aload_n 0, 1) := by decide +kernel
theorem dX6_layer_101 : decode cX6_layer 101 = .ok (.getfield 78, 3) := by decide +kernel
theorem dX6_layer_104 : decode cX6_layer 104 = .ok (.iconst 1, 1) := by decide +kernel
theorem dX6_layer_105 : decode cX6_layer 105 = .ok (.isub, 1) := by decide +kernel
theorem dX6_layer_106 : decode cX6_layer 106 = .ok (.ireturn, 1) := by decide +kernel
theorem dX6_weightAt_0 : decode cX6_weightAt 0 = .ok (.bipush 32, 2) := by decide +kernel
theorem dX6_weightAt_2 : decode cX6_weightAt 2 = .ok (.iload_n 0, 1) := by decide +kernel
theorem dX6_weightAt_3 : decode cX6_weightAt 3 = .ok (.imul, 1) := by decide +kernel
theorem dX6_weightAt_4 : decode cX6_weightAt 4 = .ok (.iconst 4, 1) := by decide +kernel
theorem dX6_weightAt_5 : decode cX6_weightAt 5 = .ok (.iload_n 1, 1) := by decide +kernel
theorem dX6_weightAt_6 : decode cX6_weightAt 6 = .ok (.imul, 1) := by decide +kernel
theorem dX6_weightAt_7 : decode cX6_weightAt 7 = .ok (.iadd, 1) := by decide +kernel
theorem dX6_weightAt_8 : decode cX6_weightAt 8 = .ok (.iload_n 2, 1) := by decide +kernel
theorem dX6_weightAt_9 : decode cX6_weightAt 9 = .ok (.iadd, 1) := by decide +kernel
theorem dX6_weightAt_10 : decode cX6_weightAt 10 = .ok (.ireturn, 1) := by decide +kernel
set_option maxRecDepth 20000 in
theorem ggX6_weight_X6_isLayer : GoodIn wsX6_weight wsX6_isLayer := goodIn_r _ [9, 10, 11, 12, 8, 13, 17, 18, 19, 20, 21, 22, 23, 24, 25, 26, 27, 28, 29, 30, 31, 32, 33, 34, 35, 36, 37, 38, 39, 40, 41] (by decide +kernel) (by decide +kernel)
set_option maxRecDepth 20000 in
theorem gX6_weight_X6_isLayer : GoodIn wsX6_weight (wsV RX6 99 RX6 yX6_isLayer wsX6_isLayer) := goodIn_app (goodIn_of _ (by decide +kernel)) ggX6_weight_X6_isLayer
set_option maxRecDepth 20000 in
theorem ggX6_weight_X6_in : GoodIn wsX6_weight wsX6_in := goodIn_r _ [13] (by decide +kernel) (by decide +kernel)
set_option maxRecDepth 20000 in
theorem gX6_weight_X6_in : GoodIn wsX6_weight (va_wsS RX6 81 yX6_in wsX6_in) := goodIn_app (goodIn_of _ (by decide +kernel)) ggX6_weight_X6_in
set_option maxRecDepth 20000 in
theorem ggX6_weight_X6_weightAt : GoodIn wsX6_weight wsX6_weightAt := goodIn_r _ [16] (by decide +kernel) (by decide +kernel)
set_option maxRecDepth 20000 in
theorem gX6_weight_X6_weightAt : GoodIn wsX6_weight (va_wsS RX6 102 yX6_weightAt wsX6_weightAt) := goodIn_app (goodIn_of _ (by decide +kernel)) ggX6_weight_X6_weightAt
theorem dX6_weight_0 : decode cX6_weight 0 = .ok (.aload_n 0, 1) := by decide +kernel
theorem dX6_weight_1 : decode cX6_weight 1 = .ok (.iload_n 1, 1) := by decide +kernel
theorem dX6_weight_2 : decode cX6_weight 2 = .ok (.invokevirtual 99, 3) := by decide +kernel
theorem dX6_weight_5 : decode cX6_weight 5 = .ok (.ifCond .eq 39, 3) := by decide +kernel
theorem dX6_weight_8 : decode cX6_weight 8 = .ok (.iload_n 2, 1) := by decide +kernel
theorem dX6_weight_9 : decode cX6_weight 9 = .ok (.iconst 0, 1) := by decide +kernel
theorem dX6_weight_10 : decode cX6_weight 10 = .ok (.aload_n 0, 1) := by decide +kernel
theorem dX6_weight_11 : decode cX6_weight 11 = .ok (.getfield 45, 3) := by decide +kernel
theorem dX6_weight_14 : decode cX6_weight 14 = .ok (.iload_n 1, 1) := by decide +kernel
theorem dX6_weight_15 : decode cX6_weight 15 = .ok (.iaload, 1) := by decide +kernel
theorem dX6_weight_16 : decode cX6_weight 16 = .ok (.iconst 1, 1) := by decide +kernel
theorem dX6_weight_17 : decode cX6_weight 17 = .ok (.isub, 1) := by decide +kernel
theorem dX6_weight_18 : decode cX6_weight 18 = .ok (.invokestatic 81, 3) := by decide +kernel
theorem dX6_weight_21 : decode cX6_weight 21 = .ok (.ifCond .eq 23, 3) := by decide +kernel
theorem dX6_weight_24 : decode cX6_weight 24 = .ok (.iload_n 3, 1) := by decide +kernel
theorem dX6_weight_25 : decode cX6_weight 25 = .ok (.iconst 0, 1) := by decide +kernel
theorem dX6_weight_26 : decode cX6_weight 26 = .ok (.aload_n 0, 1) := by decide +kernel
theorem dX6_weight_27 : decode cX6_weight 27 = .ok (.getfield 48, 3) := by decide +kernel
theorem dX6_weight_30 : decode cX6_weight 30 = .ok (.iload_n 1, 1) := by decide +kernel
theorem dX6_weight_31 : decode cX6_weight 31 = .ok (.iaload, 1) := by decide +kernel
theorem dX6_weight_32 : decode cX6_weight 32 = .ok (.iconst 1, 1) := by decide +kernel
theorem dX6_weight_33 : decode cX6_weight 33 = .ok (.isub, 1) := by decide +kernel
theorem dX6_weight_34 : decode cX6_weight 34 = .ok (.invokestatic 81, 3) := by decide +kernel
theorem dX6_weight_37 : decode cX6_weight 37 = .ok (.ifCond .eq 7, 3) := by decide +kernel
theorem dX6_weight_40 : decode cX6_weight 40 = .ok (.iconst 1, 1) := by decide +kernel
theorem dX6_weight_41 : decode cX6_weight 41 = .ok (.goto 4, 3) := by decide +kernel
theorem dX6_weight_44 : decode cX6_weight 44 = .ok (.iconst 0, 1) := by decide +kernel
theorem dX6_weight_45 : decode cX6_weight 45 = .ok (.istore 5, 2) := by decide +kernel
theorem dX6_weight_47 : decode cX6_weight 47 = .ok (.aload_n 0, 1) := by decide +kernel
theorem dX6_weight_48 : decode cX6_weight 48 = .ok (.iload 5, 2) := by decide +kernel
theorem dX6_weight_50 : decode cX6_weight 50 = .ok (.ifCond .ne 7, 3) := by decide +kernel
theorem dX6_weight_53 : decode cX6_weight 53 = .ok (.iconst 1, 1) := by decide +kernel
theorem dX6_weight_54 : decode cX6_weight 54 = .ok (.goto 22, 3) := by decide +kernel
theorem dX6_weight_57 : decode cX6_weight 57 = .ok (.iload 4, 2) := by decide +kernel
theorem dX6_weight_59 : decode cX6_weight 59 = .ok (.sipush (-255), 3) := by decide +kernel
theorem dX6_weight_62 : decode cX6_weight 62 = .ok (.sipush 255, 3) := by decide +kernel
theorem dX6_weight_65 : decode cX6_weight 65 = .ok (.invokestatic 81, 3) := by decide +kernel
theorem dX6_weight_68 : decode cX6_weight 68 = .ok (.ifCond .eq 7, 3) := by decide +kernel
theorem dX6_weight_71 : decode cX6_weight 71 = .ok (.iconst 0, 1) := by decide +kernel
theorem dX6_weight_72 : decode cX6_weight 72 = .ok (.goto 4, 3) := by decide +kernel
theorem dX6_weight_75 : decode cX6_weight 75 = .ok (.iconst 2, 1) := by decide +kernel
theorem dX6_weight_76 : decode cX6_weight 76 = .ok (.putfield 75, 3) := by decide +kernel
theorem dX6_weight_79 : decode cX6_weight 79 = .ok (.aload_n 0, 1) := by decide +kernel
theorem dX6_weight_80 : decode cX6_weight 80 = .ok (.getfield 75, 3) := by decide +kernel
theorem dX6_weight_83 : decode cX6_weight 83 = .ok (.ifCond .le 5, 3) := by decide +kernel
theorem dX6_weight_86 : decode cX6_weight 86 = .ok (.iconst 0, 1) := by decide +kernel
theorem dX6_weight_87 : decode cX6_weight 87 = .ok (.ireturn, 1) := by decide +kernel
theorem dX6_weight_88 : decode cX6_weight 88 = .ok (.aload_n 0, 1) := by decide +kernel
theorem dX6_weight_89 : decode cX6_weight 89 = .ok (.getfield 51, 3) := by decide +kernel
theorem dX6_weight_92 : decode cX6_weight 92 = .ok (.iload_n 1, 1) := by decide +kernel
theorem dX6_weight_93 : decode cX6_weight 93 = .ok (.iload_n 2, 1) := by decide +kernel
theorem dX6_weight_94 : decode cX6_weight 94 = .ok (.iload_n 3, 1) := by decide +kernel
theorem dX6_weight_95 : decode cX6_weight 95 = .ok (.invokestatic 102, 3) := by decide +kernel
theorem dX6_weight_98 : decode cX6_weight 98 = .ok (.iaload, 1) := by decide +kernel
theorem dX6_weight_99 : decode cX6_weight 99 = .ok (.istore 6, 2) := by decide +kernel
theorem dX6_weight_101 : decode cX6_weight 101 = .ok (.aload_n 0, 1) := by decide +kernel
theorem dX6_weight_102 : decode cX6_weight 102 = .ok (.getfield 51, 3) := by decide +kernel
theorem dX6_weight_105 : decode cX6_weight 105 = .ok (.iload_n 1, 1) := by decide +kernel
theorem dX6_weight_106 : decode cX6_weight 106 = .ok (.iload_n 2, 1) := by decide +kernel
theorem dX6_weight_107 : decode cX6_weight 107 = .ok (.iload_n 3, 1) := by decide +kernel
theorem dX6_weight_108 : decode cX6_weight 108 = .ok (.invokestatic 102, 3) := by decide +kernel
theorem dX6_weight_111 : decode cX6_weight 111 = .ok (.iload 4, 2) := by decide +kernel
theorem dX6_weight_113 : decode cX6_weight 113 = .ok (.iastore, 1) := by decide +kernel
theorem dX6_weight_114 : decode cX6_weight 114 = .ok (.iload 6, 2) := by decide +kernel
theorem dX6_weight_116 : decode cX6_weight 116 = .ok (.ireturn, 1) := by decide +kernel
set_option maxRecDepth 20000 in
theorem ggX6_shift_X6_isLayer : GoodIn wsX6_shift wsX6_isLayer := goodIn_r _ [7, 8, 9, 10, 6, 11, 12, 13, 14, 15, 16, 17, 18, 19, 20, 21, 22, 23, 24, 25, 26, 27, 28, 29, 30, 31, 32, 33, 34, 35, 36] (by decide +kernel) (by decide +kernel)
set_option maxRecDepth 20000 in
theorem gX6_shift_X6_isLayer : GoodIn wsX6_shift (wsV RX6 99 RX6 yX6_isLayer wsX6_isLayer) := goodIn_app (goodIn_of _ (by decide +kernel)) ggX6_shift_X6_isLayer
set_option maxRecDepth 20000 in
theorem ggX6_shift_X6_in : GoodIn wsX6_shift wsX6_in := goodIn_r _ [11] (by decide +kernel) (by decide +kernel)
set_option maxRecDepth 20000 in
theorem gX6_shift_X6_in : GoodIn wsX6_shift (va_wsS RX6 81 yX6_in wsX6_in) := goodIn_app (goodIn_of _ (by decide +kernel)) ggX6_shift_X6_in
theorem dX6_shift_0 : decode cX6_shift 0 = .ok (.aload_n 0, 1) := by decide +kernel
theorem dX6_shift_1 : decode cX6_shift 1 = .ok (.aload_n 0, 1) := by decide +kernel
theorem dX6_shift_2 : decode cX6_shift 2 = .ok (.iload_n 1, 1) := by decide +kernel
theorem dX6_shift_3 : decode cX6_shift 3 = .ok (.invokevirtual 99, 3) := by decide +kernel
theorem dX6_shift_6 : decode cX6_shift 6 = .ok (.ifCond .ne 7, 3) := by decide +kernel
theorem dX6_shift_9 : decode cX6_shift 9 = .ok (.iconst 1, 1) := by decide +kernel
theorem dX6_shift_10 : decode cX6_shift 10 = .ok (.goto 18, 3) := by decide +kernel
theorem dX6_shift_13 : decode cX6_shift 13 = .ok (.iload_n 2, 1) := by decide +kernel
theorem dX6_shift_14 : decode cX6_shift 14 = .ok (.iconst 0, 1) := by decide +kernel
theorem dX6_shift_15 : decode cX6_shift 15 = .ok (.bipush 20, 2) := by decide +kernel
theorem dX6_shift_17 : decode cX6_shift 17 = .ok (.invokestatic 81, 3) := by decide +kernel
theorem dX6_shift_20 : decode cX6_shift 20 = .ok (.ifCond .eq 7, 3) := by decide +kernel
theorem dX6_shift_23 : decode cX6_shift 23 = .ok (.iconst 0, 1) := by decide +kernel
theorem dX6_shift_24 : decode cX6_shift 24 = .ok (.goto 4, 3) := by decide +kernel
theorem dX6_shift_27 : decode cX6_shift 27 = .ok (.iconst 2, 1) := by decide +kernel
theorem dX6_shift_28 : decode cX6_shift 28 = .ok (.putfield 75, 3) := by decide +kernel
theorem dX6_shift_31 : decode cX6_shift 31 = .ok (.aload_n 0, 1) := by decide +kernel
theorem dX6_shift_32 : decode cX6_shift 32 = .ok (.getfield 75, 3) := by decide +kernel
theorem dX6_shift_35 : decode cX6_shift 35 = .ok (.ifCond .le 5, 3) := by decide +kernel
theorem dX6_shift_38 : decode cX6_shift 38 = .ok (.iconst 0, 1) := by decide +kernel
theorem dX6_shift_39 : decode cX6_shift 39 = .ok (.ireturn, 1) := by decide +kernel
theorem dX6_shift_40 : decode cX6_shift 40 = .ok (.aload_n 0, 1) := by decide +kernel
theorem dX6_shift_41 : decode cX6_shift 41 = .ok (.getfield 54, 3) := by decide +kernel
theorem dX6_shift_44 : decode cX6_shift 44 = .ok (.iload_n 1, 1) := by decide +kernel
theorem dX6_shift_45 : decode cX6_shift 45 = .ok (.iaload, 1) := by decide +kernel
theorem dX6_shift_46 : decode cX6_shift 46 = .ok (.istore_n 3, 1) := by decide +kernel
theorem dX6_shift_47 : decode cX6_shift 47 = .ok (.aload_n 0, 1) := by decide +kernel
theorem dX6_shift_48 : decode cX6_shift 48 = .ok (.getfield 54, 3) := by decide +kernel
theorem dX6_shift_51 : decode cX6_shift 51 = .ok (.iload_n 1, 1) := by decide +kernel
theorem dX6_shift_52 : decode cX6_shift 52 = .ok (.iload_n 2, 1) := by decide +kernel
theorem dX6_shift_53 : decode cX6_shift 53 = .ok (.iastore, 1) := by decide +kernel
theorem dX6_shift_54 : decode cX6_shift 54 = .ok (.iload_n 3, 1) := by decide +kernel
theorem dX6_shift_55 : decode cX6_shift 55 = .ok (.ireturn, 1) := by decide +kernel
set_option maxRecDepth 20000 in
theorem ggX6_next_X6_isLayer : GoodIn wsX6_next wsX6_isLayer := goodIn_r _ [9, 10, 11, 12, 8, 13, 14, 15, 16, 17, 18, 19, 20, 21, 22, 23, 24, 25, 26, 27, 28, 29, 30, 31, 32, 33, 34, 35, 36, 37, 38] (by decide +kernel) (by decide +kernel)
set_option maxRecDepth 20000 in
theorem gX6_next_X6_isLayer : GoodIn wsX6_next (wsV RX6 99 RX6 yX6_isLayer wsX6_isLayer) := goodIn_app (goodIn_of _ (by decide +kernel)) ggX6_next_X6_isLayer
theorem dX6_next_0 : decode cX6_next 0 = .ok (.aload_n 0, 1) := by decide +kernel
theorem dX6_next_1 : decode cX6_next 1 = .ok (.aload_n 0, 1) := by decide +kernel
theorem dX6_next_2 : decode cX6_next 2 = .ok (.iload_n 1, 1) := by decide +kernel
theorem dX6_next_3 : decode cX6_next 3 = .ok (.invokevirtual 99, 3) := by decide +kernel
theorem dX6_next_6 : decode cX6_next 6 = .ok (.ifCond .eq 16, 3) := by decide +kernel
theorem dX6_next_9 : decode cX6_next 9 = .ok (.iload_n 2, 1) := by decide +kernel
theorem dX6_next_10 : decode cX6_next 10 = .ok (.iconst (-1), 1) := by decide +kernel
theorem dX6_next_11 : decode cX6_next 11 = .ok (.if_icmp .eq 15, 3) := by decide +kernel
theorem dX6_next_14 : decode cX6_next 14 = .ok (.aload_n 0, 1) := by decide +kernel
theorem dX6_next_15 : decode cX6_next 15 = .ok (.iload_n 2, 1) := by decide +kernel
theorem dX6_next_16 : decode cX6_next 16 = .ok (.invokevirtual 99, 3) := by decide +kernel
theorem dX6_next_19 : decode cX6_next 19 = .ok (.ifCond .ne 7, 3) := by decide +kernel
theorem dX6_next_22 : decode cX6_next 22 = .ok (.iconst 1, 1) := by decide +kernel
theorem dX6_next_23 : decode cX6_next 23 = .ok (.goto 4, 3) := by decide +kernel
theorem dX6_next_26 : decode cX6_next 26 = .ok (.iconst 0, 1) := by decide +kernel
theorem dX6_next_27 : decode cX6_next 27 = .ok (.putfield 75, 3) := by decide +kernel
theorem dX6_next_30 : decode cX6_next 30 = .ok (.aload_n 0, 1) := by decide +kernel
theorem dX6_next_31 : decode cX6_next 31 = .ok (.getfield 75, 3) := by decide +kernel
theorem dX6_next_34 : decode cX6_next 34 = .ok (.ifCond .ne 37, 3) := by decide +kernel
theorem dX6_next_37 : decode cX6_next 37 = .ok (.iload_n 2, 1) := by decide +kernel
theorem dX6_next_38 : decode cX6_next 38 = .ok (.iconst (-1), 1) := by decide +kernel
theorem dX6_next_39 : decode cX6_next 39 = .ok (.if_icmp .eq 32, 3) := by decide +kernel
theorem dX6_next_42 : decode cX6_next 42 = .ok (.aload_n 0, 1) := by decide +kernel
theorem dX6_next_43 : decode cX6_next 43 = .ok (.iload_n 2, 1) := by decide +kernel
theorem dX6_next_44 : decode cX6_next 44 = .ok (.iload_n 1, 1) := by decide +kernel
theorem dX6_next_45 : decode cX6_next 45 = .ok (.if_icmp .le 22, 3) := by decide +kernel
theorem dX6_next_48 : decode cX6_next 48 = .ok (.aload_n 0, 1) := by decide +kernel
theorem dX6_next_49 : decode cX6_next 49 = .ok (.getfield 45, 3) := by decide +kernel
theorem dX6_next_52 : decode cX6_next 52 = .ok (.iload_n 2, 1) := by decide +kernel
theorem dX6_next_53 : decode cX6_next 53 = .ok (.iaload, 1) := by decide +kernel
theorem dX6_next_54 : decode cX6_next 54 = .ok (.aload_n 0, 1) := by decide +kernel
theorem dX6_next_55 : decode cX6_next 55 = .ok (.getfield 48, 3) := by decide +kernel
theorem dX6_next_58 : decode cX6_next 58 = .ok (.iload_n 1, 1) := by decide +kernel
theorem dX6_next_59 : decode cX6_next 59 = .ok (.iaload, 1) := by decide +kernel
theorem dX6_next_60 : decode cX6_next 60 = .ok (.if_icmp .lt 7, 3) := by decide +kernel
theorem dX6_next_63 : decode cX6_next 63 = .ok (.iconst 0, 1) := by decide +kernel
theorem dX6_next_64 : decode cX6_next 64 = .ok (.goto 4, 3) := by decide +kernel
theorem dX6_next_67 : decode cX6_next 67 = .ok (.iconst 2, 1) := by decide +kernel
theorem dX6_next_68 : decode cX6_next 68 = .ok (.putfield 75, 3) := by decide +kernel
theorem dX6_next_71 : decode cX6_next 71 = .ok (.aload_n 0, 1) := by decide +kernel
theorem dX6_next_72 : decode cX6_next 72 = .ok (.getfield 75, 3) := by decide +kernel
theorem dX6_next_75 : decode cX6_next 75 = .ok (.ifCond .le 5, 3) := by decide +kernel
theorem dX6_next_78 : decode cX6_next 78 = .ok (.iconst 0, 1) := by decide +kernel
theorem dX6_next_79 : decode cX6_next 79 = .ok (.ireturn, 1) := by decide +kernel
theorem dX6_next_80 : decode cX6_next 80 = .ok (.aload_n 0, 1) := by decide +kernel
theorem dX6_next_81 : decode cX6_next 81 = .ok (.getfield 57, 3) := by decide +kernel
theorem dX6_next_84 : decode cX6_next 84 = .ok (.iload_n 1, 1) := by decide +kernel
theorem dX6_next_85 : decode cX6_next 85 = .ok (.iaload, 1) := by decide +kernel
theorem dX6_next_86 : decode cX6_next 86 = .ok (.istore_n 3, 1) := by decide +kernel
theorem dX6_next_87 : decode cX6_next 87 = .ok (.aload_n 0, 1) := by decide +kernel
theorem dX6_next_88 : decode cX6_next 88 = .ok (.getfield 57, 3) := by decide +kernel
theorem dX6_next_91 : decode cX6_next 91 = .ok (.iload_n 1, 1) := by decide +kernel
theorem dX6_next_92 : decode cX6_next 92 = .ok (.iload_n 2, 1) := by decide +kernel
theorem dX6_next_93 : decode cX6_next 93 = .ok (.iastore, 1) := by decide +kernel
theorem dX6_next_94 : decode cX6_next 94 = .ok (.iload_n 3, 1) := by decide +kernel
theorem dX6_next_95 : decode cX6_next 95 = .ok (.ireturn, 1) := by decide +kernel
set_option maxRecDepth 20000 in
theorem ggX6_needs_X6_weightAt : GoodIn wsX6_needs wsX6_weightAt := goodIn_r _ [5] (by decide +kernel) (by decide +kernel)
set_option maxRecDepth 20000 in
theorem gX6_needs_X6_weightAt : GoodIn wsX6_needs (va_wsS RX6 102 yX6_weightAt wsX6_weightAt) := goodIn_app (goodIn_of _ (by decide +kernel)) ggX6_needs_X6_weightAt
theorem dX6_needs_0 : decode cX6_needs 0 = .ok (.aload_n 0, 1) := by decide +kernel
theorem dX6_needs_1 : decode cX6_needs 1 = .ok (.getfield 51, 3) := by decide +kernel
theorem dX6_needs_4 : decode cX6_needs 4 = .ok (.iload_n 1, 1) := by decide +kernel
theorem dX6_needs_5 : decode cX6_needs 5 = .ok (.iload_n 2, 1) := by decide +kernel
theorem dX6_needs_6 : decode cX6_needs 6 = .ok (.iload_n 3, 1) := by decide +kernel
theorem dX6_needs_7 : decode cX6_needs 7 = .ok (.invokestatic 102, 3) := by decide +kernel
theorem dX6_needs_10 : decode cX6_needs 10 = .ok (.iaload, 1) := by decide +kernel
theorem dX6_needs_11 : decode cX6_needs 11 = .ok (.istore 5, 2) := by decide +kernel
theorem dX6_needs_13 : decode cX6_needs 13 = .ok (.iload 5, 2) := by decide +kernel
theorem dX6_needs_15 : decode cX6_needs 15 = .ok (.ifCond .ge 9, 3) := by decide +kernel
theorem dX6_needs_18 : decode cX6_needs 18 = .ok (.iload 5, 2) := by decide +kernel
theorem dX6_needs_20 : decode cX6_needs 20 = .ok (.ineg, 1) := by decide +kernel
theorem dX6_needs_21 : decode cX6_needs 21 = .ok (.goto 5, 3) := by decide +kernel
theorem dX6_needs_24 : decode cX6_needs 24 = .ok (.iload 5, 2) := by decide +kernel
theorem dX6_needs_26 : decode cX6_needs 26 = .ok (.istore 6, 2) := by decide +kernel
theorem dX6_needs_28 : decode cX6_needs 28 = .ok (.iload 5, 2) := by decide +kernel
theorem dX6_needs_30 : decode cX6_needs 30 = .ok (.ifCond .lt 7, 3) := by decide +kernel
theorem dX6_needs_33 : decode cX6_needs 33 = .ok (.iconst 1, 1) := by decide +kernel
theorem dX6_needs_34 : decode cX6_needs 34 = .ok (.goto 4, 3) := by decide +kernel
theorem dX6_needs_37 : decode cX6_needs 37 = .ok (.iconst 0, 1) := by decide +kernel
theorem dX6_needs_38 : decode cX6_needs 38 = .ok (.iload 4, 2) := by decide +kernel
theorem dX6_needs_40 : decode cX6_needs 40 = .ok (.iconst 2, 1) := by decide +kernel
theorem dX6_needs_41 : decode cX6_needs 41 = .ok (.if_icmp .ge 7, 3) := by decide +kernel
theorem dX6_needs_44 : decode cX6_needs 44 = .ok (.iconst 1, 1) := by decide +kernel
theorem dX6_needs_45 : decode cX6_needs 45 = .ok (.goto 4, 3) := by decide +kernel
theorem dX6_needs_48 : decode cX6_needs 48 = .ok (.iconst 0, 1) := by decide +kernel
theorem dX6_needs_49 : decode cX6_needs 49 = .ok (.if_icmp .ne 7, 3) := by decide +kernel
theorem dX6_needs_52 : decode cX6_needs 52 = .ok (.iconst 1, 1) := by decide +kernel
theorem dX6_needs_53 : decode cX6_needs 53 = .ok (.goto 4, 3) := by decide +kernel
theorem dX6_needs_56 : decode cX6_needs 56 = .ok (.iconst 0, 1) := by decide +kernel
theorem dX6_needs_57 : decode cX6_needs 57 = .ok (.istore 7, 2) := by decide +kernel
theorem dX6_needs_59 : decode cX6_needs 59 = .ok (.iload 7, 2) := by decide +kernel
theorem dX6_needs_61 : decode cX6_needs 61 = .ok (.ifCond .ne 7, 3) := by decide +kernel
theorem dX6_needs_64 : decode cX6_needs 64 = .ok (.iconst 0, 1) := by decide +kernel
theorem dX6_needs_65 : decode cX6_needs 65 = .ok (.goto 23, 3) := by decide +kernel
theorem dX6_needs_68 : decode cX6_needs 68 = .ok (.iload 4, 2) := by decide +kernel
theorem dX6_needs_70 : decode cX6_needs 70 = .ok (.iconst 2, 1) := by decide +kernel
theorem dX6_needs_71 : decode cX6_needs 71 = .ok (.irem, 1) := by decide +kernel
theorem dX6_needs_72 : decode cX6_needs 72 = .ok (.ifCond .ne 11, 3) := by decide +kernel
theorem dX6_needs_75 : decode cX6_needs 75 = .ok (.iload 6, 2) := by decide +kernel
theorem dX6_needs_77 : decode cX6_needs 77 = .ok (.bipush 16, 2) := by decide +kernel
theorem dX6_needs_79 : decode cX6_needs 79 = .ok (.irem, 1) := by decide +kernel
theorem dX6_needs_80 : decode cX6_needs 80 = .ok (.goto 8, 3) := by decide +kernel
theorem dX6_needs_83 : decode cX6_needs 83 = .ok (.iload 6, 2) := by decide +kernel
theorem dX6_needs_85 : decode cX6_needs 85 = .ok (.bipush 16, 2) := by decide +kernel
theorem dX6_needs_87 : decode cX6_needs 87 = .ok (.idiv, 1) := by decide +kernel
theorem dX6_needs_88 : decode cX6_needs 88 = .ok (.ireturn, 1) := by decide +kernel
theorem dX6_ones_0 : decode cX6_ones 0 = .ok (.iconst 0, 1) := by decide +kernel
theorem dX6_ones_1 : decode cX6_ones 1 = .ok (.istore_n 1, 1) := by decide +kernel
theorem dX6_ones_2 : decode cX6_ones 2 = .ok (.iconst 0, 1) := by decide +kernel
theorem dX6_ones_3 : decode cX6_ones 3 = .ok (.istore_n 2, 1) := by decide +kernel
theorem dX6_ones_4 : decode cX6_ones 4 = .ok (.iload_n 2, 1) := by decide +kernel
theorem dX6_ones_5 : decode cX6_ones 5 = .ok (.bipush 8, 2) := by decide +kernel
theorem dX6_ones_7 : decode cX6_ones 7 = .ok (.if_icmp .ge 17, 3) := by decide +kernel
theorem dX6_ones_10 : decode cX6_ones 10 = .ok (.iload_n 1, 1) := by decide +kernel
theorem dX6_ones_11 : decode cX6_ones 11 = .ok (.iload_n 0, 1) := by decide +kernel
theorem dX6_ones_12 : decode cX6_ones 12 = .ok (.iload_n 2, 1) := by decide +kernel
theorem dX6_ones_13 : decode cX6_ones 13 = .ok (.ishr, 1) := by decide +kernel
theorem dX6_ones_14 : decode cX6_ones 14 = .ok (.iconst 1, 1) := by decide +kernel
theorem dX6_ones_15 : decode cX6_ones 15 = .ok (.iand, 1) := by decide +kernel
theorem dX6_ones_16 : decode cX6_ones 16 = .ok (.iadd, 1) := by decide +kernel
theorem dX6_ones_17 : decode cX6_ones 17 = .ok (.istore_n 1, 1) := by decide +kernel
theorem dX6_ones_18 : decode cX6_ones 18 = .ok (.iinc 2 1, 3) := by decide +kernel
theorem dX6_ones_21 : decode cX6_ones 21 = .ok (.goto (-17), 3) := by decide +kernel
theorem dX6_ones_24 : decode cX6_ones 24 = .ok (.iload_n 1, 1) := by decide +kernel
theorem dX6_ones_25 : decode cX6_ones 25 = .ok (.ireturn, 1) := by decide +kernel
set_option maxRecDepth 20000 in
theorem ggX6_misfitsOf_X6_cellAt : GoodIn wsX6_misfitsOf wsX6_cellAt := goodIn_r _ [7] (by decide +kernel) (by decide +kernel)
set_option maxRecDepth 20000 in
theorem gX6_misfitsOf_X6_cellAt : GoodIn wsX6_misfitsOf (va_wsS RX6 106 yX6_cellAt wsX6_cellAt) := goodIn_app (goodIn_of _ (by decide +kernel)) ggX6_misfitsOf_X6_cellAt
set_option maxRecDepth 20000 in
theorem ggX6_misfitsOf_X6_needs : GoodIn wsX6_misfitsOf wsX6_needs := goodIn_r _ [11, 12, 13, 14, 6, 15, 16, 17, 18, 19, 20, 21, 22, 23, 24, 25, 26, 27, 28, 29, 30, 31, 32, 33, 34, 35, 36, 37, 38, 39, 40] (by decide +kernel) (by decide +kernel)
set_option maxRecDepth 20000 in
theorem gX6_misfitsOf_X6_needs : GoodIn wsX6_misfitsOf (wsV RX6 109 RX6 yX6_needs wsX6_needs) := goodIn_app (goodIn_of _ (by decide +kernel)) ggX6_misfitsOf_X6_needs
theorem dX6_misfitsOf_0 : decode cX6_misfitsOf 0 = .ok (.iconst 0, 1) := by decide +kernel
theorem dX6_misfitsOf_1 : decode cX6_misfitsOf 1 = .ok (.istore 5, 2) := by decide +kernel
theorem dX6_misfitsOf_3 : decode cX6_misfitsOf 3 = .ok (.iconst 0, 1) := by decide +kernel
theorem dX6_misfitsOf_4 : decode cX6_misfitsOf 4 = .ok (.istore 6, 2) := by decide +kernel
theorem dX6_misfitsOf_6 : decode cX6_misfitsOf 6 = .ok (.iload 6, 2) := by decide +kernel
theorem dX6_misfitsOf_8 : decode cX6_misfitsOf 8 = .ok (.aload_n 0, 1) := by decide +kernel
theorem dX6_misfitsOf_9 : decode cX6_misfitsOf 9 = .ok (.getfield 48, 3) := by decide +kernel
theorem dX6_misfitsOf_12 : decode cX6_misfitsOf 12 = .ok (.iload_n 1, 1) := by decide +kernel
theorem dX6_misfitsOf_13 : decode cX6_misfitsOf 13 = .ok (.iaload, 1) := by decide +kernel
theorem dX6_misfitsOf_14 : decode cX6_misfitsOf 14 = .ok (.if_icmp .ge 79, 3) := by decide +kernel
theorem dX6_misfitsOf_17 : decode cX6_misfitsOf 17 = .ok (.iconst 0, 1) := by decide +kernel
theorem dX6_misfitsOf_18 : decode cX6_misfitsOf 18 = .ok (.istore 7, 2) := by decide +kernel
theorem dX6_misfitsOf_20 : decode cX6_misfitsOf 20 = .ok (.iload 7, 2) := by decide +kernel
theorem dX6_misfitsOf_22 : decode cX6_misfitsOf 22 = .ok (.iconst 4, 1) := by decide +kernel
theorem dX6_misfitsOf_23 : decode cX6_misfitsOf 23 = .ok (.if_icmp .ge 64, 3) := by decide +kernel
theorem dX6_misfitsOf_26 : decode cX6_misfitsOf 26 = .ok (.iload_n 2, 1) := by decide +kernel
theorem dX6_misfitsOf_27 : decode cX6_misfitsOf 27 = .ok (.iload 4, 2) := by decide +kernel
theorem dX6_misfitsOf_29 : decode cX6_misfitsOf 29 = .ok (.iconst 4, 1) := by decide +kernel
theorem dX6_misfitsOf_30 : decode cX6_misfitsOf 30 = .ok (.iload 6, 2) := by decide +kernel
theorem dX6_misfitsOf_32 : decode cX6_misfitsOf 32 = .ok (.imul, 1) := by decide +kernel
theorem dX6_misfitsOf_33 : decode cX6_misfitsOf 33 = .ok (.iload 7, 2) := by decide +kernel
theorem dX6_misfitsOf_35 : decode cX6_misfitsOf 35 = .ok (.iadd, 1) := by decide +kernel
theorem dX6_misfitsOf_36 : decode cX6_misfitsOf 36 = .ok (.invokestatic 106, 3) := by decide +kernel
theorem dX6_misfitsOf_39 : decode cX6_misfitsOf 39 = .ok (.istore 8, 2) := by decide +kernel
theorem dX6_misfitsOf_41 : decode cX6_misfitsOf 41 = .ok (.iload 5, 2) := by decide +kernel
theorem dX6_misfitsOf_43 : decode cX6_misfitsOf 43 = .ok (.aload_n 0, 1) := by decide +kernel
theorem dX6_misfitsOf_44 : decode cX6_misfitsOf 44 = .ok (.getfield 27, 3) := by decide +kernel
theorem dX6_misfitsOf_47 : decode cX6_misfitsOf 47 = .ok (.iload 8, 2) := by decide +kernel
theorem dX6_misfitsOf_49 : decode cX6_misfitsOf 49 = .ok (.baload, 1) := by decide +kernel
theorem dX6_misfitsOf_50 : decode cX6_misfitsOf 50 = .ok (.ifCond .eq 27, 3) := by decide +kernel
theorem dX6_misfitsOf_53 : decode cX6_misfitsOf 53 = .ok (.aload_n 0, 1) := by decide +kernel
theorem dX6_misfitsOf_54 : decode cX6_misfitsOf 54 = .ok (.getfield 13, 3) := by decide +kernel
theorem dX6_misfitsOf_57 : decode cX6_misfitsOf 57 = .ok (.iload 8, 2) := by decide +kernel
theorem dX6_misfitsOf_59 : decode cX6_misfitsOf 59 = .ok (.iaload, 1) := by decide +kernel
theorem dX6_misfitsOf_60 : decode cX6_misfitsOf 60 = .ok (.aload_n 0, 1) := by decide +kernel
theorem dX6_misfitsOf_61 : decode cX6_misfitsOf 61 = .ok (.iload_n 1, 1) := by decide +kernel
theorem dX6_misfitsOf_62 : decode cX6_misfitsOf 62 = .ok (.iload_n 3, 1) := by decide +kernel
theorem dX6_misfitsOf_63 : decode cX6_misfitsOf 63 = .ok (.iload 6, 2) := by decide +kernel
theorem dX6_misfitsOf_65 : decode cX6_misfitsOf 65 = .ok (.iload 7, 2) := by decide +kernel
theorem dX6_misfitsOf_67 : decode cX6_misfitsOf 67 = .ok (.invokevirtual 109, 3) := by decide +kernel
theorem dX6_misfitsOf_70 : decode cX6_misfitsOf 70 = .ok (.if_icmp .eq 7, 3) := by decide +kernel
theorem dX6_misfitsOf_73 : decode cX6_misfitsOf 73 = .ok (.iconst 1, 1) := by decide +kernel
theorem dX6_misfitsOf_74 : decode cX6_misfitsOf 74 = .ok (.goto 4, 3) := by decide +kernel
theorem dX6_misfitsOf_77 : decode cX6_misfitsOf 77 = .ok (.iconst 0, 1) := by decide +kernel
theorem dX6_misfitsOf_78 : decode cX6_misfitsOf 78 = .ok (.iadd, 1) := by decide +kernel
theorem dX6_misfitsOf_79 : decode cX6_misfitsOf 79 = .ok (.istore 5, 2) := by decide +kernel
theorem dX6_misfitsOf_81 : decode cX6_misfitsOf 81 = .ok (.iinc 7 1, 3) := by decide +kernel
theorem dX6_misfitsOf_84 : decode cX6_misfitsOf 84 = .ok (.goto (-64), 3) := by decide +kernel
theorem dX6_misfitsOf_87 : decode cX6_misfitsOf 87 = .ok (.iinc 6 1, 3) := by decide +kernel
theorem dX6_misfitsOf_90 : decode cX6_misfitsOf 90 = .ok (.goto (-84), 3) := by decide +kernel
theorem dX6_misfitsOf_93 : decode cX6_misfitsOf 93 = .ok (.iload 5, 2) := by decide +kernel
theorem dX6_misfitsOf_95 : decode cX6_misfitsOf 95 = .ok (.ireturn, 1) := by decide +kernel
set_option maxRecDepth 20000 in
theorem ggX6_finds_X6_misfitsOf : GoodIn wsX6_finds wsX6_misfitsOf := goodIn_r _ [8, 9, 10, 11, 12, 13, 7, 14, 15, 16, 17, 18, 19, 20, 21, 22, 26, 27, 28, 29, 30, 31, 32, 33, 34, 35, 36, 37, 38, 39, 40, 41, 42, 43, 44, 45, 46, 47, 48, 49, 50] (by decide +kernel) (by decide +kernel)
set_option maxRecDepth 20000 in
theorem gX6_finds_X6_misfitsOf : GoodIn wsX6_finds (wsV RX6 113 RX6 yX6_misfitsOf wsX6_misfitsOf) := goodIn_app (goodIn_of _ (by decide +kernel)) ggX6_finds_X6_misfitsOf
set_option maxRecDepth 20000 in
theorem ggX6_finds_X6_ones : GoodIn wsX6_finds wsX6_ones := goodIn_r _ [25] (by decide +kernel) (by decide +kernel)
set_option maxRecDepth 20000 in
theorem gX6_finds_X6_ones : GoodIn wsX6_finds (va_wsS RX6 116 yX6_ones wsX6_ones) := goodIn_app (goodIn_of _ (by decide +kernel)) ggX6_finds_X6_ones
theorem dX6_finds_0 : decode cX6_finds 0 = .ok (.iconst 0, 1) := by decide +kernel
theorem dX6_finds_1 : decode cX6_finds 1 = .ok (.istore_n 3, 1) := by decide +kernel
theorem dX6_finds_2 : decode cX6_finds 2 = .ok (.iload_n 3, 1) := by decide +kernel
theorem dX6_finds_3 : decode cX6_finds 3 = .ok (.aload_n 0, 1) := by decide +kernel
theorem dX6_finds_4 : decode cX6_finds 4 = .ok (.getfield 45, 3) := by decide +kernel
theorem dX6_finds_7 : decode cX6_finds 7 = .ok (.iload_n 1, 1) := by decide +kernel
theorem dX6_finds_8 : decode cX6_finds 8 = .ok (.iaload, 1) := by decide +kernel
theorem dX6_finds_9 : decode cX6_finds 9 = .ok (.if_icmp .ge 46, 3) := by decide +kernel
theorem dX6_finds_12 : decode cX6_finds 12 = .ok (.iconst 0, 1) := by decide +kernel
theorem dX6_finds_13 : decode cX6_finds 13 = .ok (.istore 4, 2) := by decide +kernel
theorem dX6_finds_15 : decode cX6_finds 15 = .ok (.iload 4, 2) := by decide +kernel
theorem dX6_finds_17 : decode cX6_finds 17 = .ok (.bipush 8, 2) := by decide +kernel
theorem dX6_finds_19 : decode cX6_finds 19 = .ok (.if_icmp .ge 30, 3) := by decide +kernel
theorem dX6_finds_22 : decode cX6_finds 22 = .ok (.aload_n 0, 1) := by decide +kernel
theorem dX6_finds_23 : decode cX6_finds 23 = .ok (.getfield 66, 3) := by decide +kernel
theorem dX6_finds_26 : decode cX6_finds 26 = .ok (.bipush 8, 2) := by decide +kernel
theorem dX6_finds_28 : decode cX6_finds 28 = .ok (.iload_n 3, 1) := by decide +kernel
theorem dX6_finds_29 : decode cX6_finds 29 = .ok (.imul, 1) := by decide +kernel
theorem dX6_finds_30 : decode cX6_finds 30 = .ok (.iload 4, 2) := by decide +kernel
theorem dX6_finds_32 : decode cX6_finds 32 = .ok (.iadd, 1) := by decide +kernel
theorem dX6_finds_33 : decode cX6_finds 33 = .ok (.aload_n 0, 1) := by decide +kernel
theorem dX6_finds_34 : decode cX6_finds 34 = .ok (.iload_n 1, 1) := by decide +kernel
theorem dX6_finds_35 : decode cX6_finds 35 = .ok (.iload_n 2, 1) := by decide +kernel
theorem dX6_finds_36 : decode cX6_finds 36 = .ok (.iload_n 3, 1) := by decide +kernel
theorem dX6_finds_37 : decode cX6_finds 37 = .ok (.iload 4, 2) := by decide +kernel
theorem dX6_finds_39 : decode cX6_finds 39 = .ok (.invokevirtual 113, 3) := by decide +kernel
theorem dX6_finds_42 : decode cX6_finds 42 = .ok (.iastore, 1) := by decide +kernel
theorem dX6_finds_43 : decode cX6_finds 43 = .ok (.iinc 4 1, 3) := by decide +kernel
theorem dX6_finds_46 : decode cX6_finds 46 = .ok (.goto (-31), 3) := by decide +kernel
theorem dX6_finds_49 : decode cX6_finds 49 = .ok (.iinc 3 1, 3) := by decide +kernel
theorem dX6_finds_52 : decode cX6_finds 52 = .ok (.goto (-50), 3) := by decide +kernel
theorem dX6_finds_55 : decode cX6_finds 55 = .ok (.sipush 255, 3) := by decide +kernel
theorem dX6_finds_58 : decode cX6_finds 58 = .ok (.istore_n 3, 1) := by decide +kernel
theorem dX6_finds_59 : decode cX6_finds 59 = .ok (.iload_n 3, 1) := by decide +kernel
theorem dX6_finds_60 : decode cX6_finds 60 = .ok (.ifCond .lt 137, 3) := by decide +kernel
theorem dX6_finds_63 : decode cX6_finds 63 = .ok (.iload_n 3, 1) := by decide +kernel
theorem dX6_finds_64 : decode cX6_finds 64 = .ok (.invokestatic 116, 3) := by decide +kernel
theorem dX6_finds_67 : decode cX6_finds 67 = .ok (.istore 4, 2) := by decide +kernel
theorem dX6_finds_69 : decode cX6_finds 69 = .ok (.aload_n 0, 1) := by decide +kernel
theorem dX6_finds_70 : decode cX6_finds 70 = .ok (.getfield 69, 3) := by decide +kernel
theorem dX6_finds_73 : decode cX6_finds 73 = .ok (.iload_n 3, 1) := by decide +kernel
theorem dX6_finds_74 : decode cX6_finds 74 = .ok (.iload 4, 2) := by decide +kernel
theorem dX6_finds_76 : decode cX6_finds 76 = .ok (.aload_n 0, 1) := by decide +kernel
theorem dX6_finds_77 : decode cX6_finds 77 = .ok (.getfield 45, 3) := by decide +kernel
theorem dX6_finds_80 : decode cX6_finds 80 = .ok (.iload_n 1, 1) := by decide +kernel
theorem dX6_finds_81 : decode cX6_finds 81 = .ok (.iaload, 1) := by decide +kernel
theorem dX6_finds_82 : decode cX6_finds 82 = .ok (.if_icmp .lt 7, 3) := by decide +kernel
theorem dX6_finds_85 : decode cX6_finds 85 = .ok (.iconst 0, 1) := by decide +kernel
theorem dX6_finds_86 : decode cX6_finds 86 = .ok (.goto 6, 3) := by decide +kernel
theorem dX6_finds_89 : decode cX6_finds 89 = .ok (.sipush 1000, 3) := by decide +kernel
theorem dX6_finds_92 : decode cX6_finds 92 = .ok (.iastore, 1) := by decide +kernel
theorem dX6_finds_93 : decode cX6_finds 93 = .ok (.iconst 0, 1) := by decide +kernel
theorem dX6_finds_94 : decode cX6_finds 94 = .ok (.istore 5, 2) := by decide +kernel
theorem dX6_finds_96 : decode cX6_finds 96 = .ok (.iload 5, 2) := by decide +kernel
theorem dX6_finds_98 : decode cX6_finds 98 = .ok (.bipush 8, 2) := by decide +kernel
theorem dX6_finds_100 : decode cX6_finds 100 = .ok (.if_icmp .ge 91, 3) := by decide +kernel
theorem dX6_finds_103 : decode cX6_finds 103 = .ok (.iload 4, 2) := by decide +kernel
theorem dX6_finds_105 : decode cX6_finds 105 = .ok (.aload_n 0, 1) := by decide +kernel
theorem dX6_finds_106 : decode cX6_finds 106 = .ok (.getfield 45, 3) := by decide +kernel
theorem dX6_finds_109 : decode cX6_finds 109 = .ok (.iload_n 1, 1) := by decide +kernel
theorem dX6_finds_110 : decode cX6_finds 110 = .ok (.iaload, 1) := by decide +kernel
theorem dX6_finds_111 : decode cX6_finds 111 = .ok (.if_icmp .ge 80, 3) := by decide +kernel
theorem dX6_finds_114 : decode cX6_finds 114 = .ok (.iload_n 3, 1) := by decide +kernel
theorem dX6_finds_115 : decode cX6_finds 115 = .ok (.iload 5, 2) := by decide +kernel
theorem dX6_finds_117 : decode cX6_finds 117 = .ok (.ishr, 1) := by decide +kernel
theorem dX6_finds_118 : decode cX6_finds 118 = .ok (.iconst 1, 1) := by decide +kernel
theorem dX6_finds_119 : decode cX6_finds 119 = .ok (.iand, 1) := by decide +kernel
theorem dX6_finds_120 : decode cX6_finds 120 = .ok (.iconst 1, 1) := by decide +kernel
theorem dX6_finds_121 : decode cX6_finds 121 = .ok (.if_icmp .ne 9, 3) := by decide +kernel
theorem dX6_finds_124 : decode cX6_finds 124 = .ok (.sipush 1000, 3) := by decide +kernel
theorem dX6_finds_127 : decode cX6_finds 127 = .ok (.goto 28, 3) := by decide +kernel
theorem dX6_finds_130 : decode cX6_finds 130 = .ok (.aload_n 0, 1) := by decide +kernel
theorem dX6_finds_131 : decode cX6_finds 131 = .ok (.getfield 66, 3) := by decide +kernel
theorem dX6_finds_134 : decode cX6_finds 134 = .ok (.bipush 8, 2) := by decide +kernel
theorem dX6_finds_136 : decode cX6_finds 136 = .ok (.iload 4, 2) := by decide +kernel
theorem dX6_finds_138 : decode cX6_finds 138 = .ok (.imul, 1) := by decide +kernel
theorem dX6_finds_139 : decode cX6_finds 139 = .ok (.iload 5, 2) := by decide +kernel
theorem dX6_finds_141 : decode cX6_finds 141 = .ok (.iadd, 1) := by decide +kernel
theorem dX6_finds_142 : decode cX6_finds 142 = .ok (.iaload, 1) := by decide +kernel
theorem dX6_finds_143 : decode cX6_finds 143 = .ok (.aload_n 0, 1) := by decide +kernel
theorem dX6_finds_144 : decode cX6_finds 144 = .ok (.getfield 69, 3) := by decide +kernel
theorem dX6_finds_147 : decode cX6_finds 147 = .ok (.iload_n 3, 1) := by decide +kernel
theorem dX6_finds_148 : decode cX6_finds 148 = .ok (.iconst 1, 1) := by decide +kernel
theorem dX6_finds_149 : decode cX6_finds 149 = .ok (.iload 5, 2) := by decide +kernel
theorem dX6_finds_151 : decode cX6_finds 151 = .ok (.ishl, 1) := by decide +kernel
theorem dX6_finds_152 : decode cX6_finds 152 = .ok (.ior, 1) := by decide +kernel
theorem dX6_finds_153 : decode cX6_finds 153 = .ok (.iaload, 1) := by decide +kernel
theorem dX6_finds_154 : decode cX6_finds 154 = .ok (.iadd, 1) := by decide +kernel
theorem dX6_finds_155 : decode cX6_finds 155 = .ok (.istore 6, 2) := by decide +kernel
theorem dX6_finds_157 : decode cX6_finds 157 = .ok (.aload_n 0, 1) := by decide +kernel
theorem dX6_finds_158 : decode cX6_finds 158 = .ok (.getfield 69, 3) := by decide +kernel
theorem dX6_finds_161 : decode cX6_finds 161 = .ok (.iload_n 3, 1) := by decide +kernel
theorem dX6_finds_162 : decode cX6_finds 162 = .ok (.iload 6, 2) := by decide +kernel
theorem dX6_finds_164 : decode cX6_finds 164 = .ok (.aload_n 0, 1) := by decide +kernel
theorem dX6_finds_165 : decode cX6_finds 165 = .ok (.getfield 69, 3) := by decide +kernel
theorem dX6_finds_168 : decode cX6_finds 168 = .ok (.iload_n 3, 1) := by decide +kernel
theorem dX6_finds_169 : decode cX6_finds 169 = .ok (.iaload, 1) := by decide +kernel
theorem dX6_finds_170 : decode cX6_finds 170 = .ok (.if_icmp .ge 8, 3) := by decide +kernel
theorem dX6_finds_173 : decode cX6_finds 173 = .ok (.iload 6, 2) := by decide +kernel
theorem dX6_finds_175 : decode cX6_finds 175 = .ok (.goto 9, 3) := by decide +kernel
theorem dX6_finds_178 : decode cX6_finds 178 = .ok (.aload_n 0, 1) := by decide +kernel
theorem dX6_finds_179 : decode cX6_finds 179 = .ok (.getfield 69, 3) := by decide +kernel
theorem dX6_finds_182 : decode cX6_finds 182 = .ok (.iload_n 3, 1) := by decide +kernel
theorem dX6_finds_183 : decode cX6_finds 183 = .ok (.iaload, 1) := by decide +kernel
theorem dX6_finds_184 : decode cX6_finds 184 = .ok (.iastore, 1) := by decide +kernel
theorem dX6_finds_185 : decode cX6_finds 185 = .ok (.iinc 5 1, 3) := by decide +kernel
theorem dX6_finds_188 : decode cX6_finds 188 = .ok (.goto (-92), 3) := by decide +kernel
theorem dX6_finds_191 : decode cX6_finds 191 = .ok (.iinc 3 (-1), 3) := by decide +kernel
theorem dX6_finds_194 : decode cX6_finds 194 = .ok (.goto (-135), 3) := by decide +kernel
theorem dX6_finds_197 : decode cX6_finds 197 = .ok (.aload_n 0, 1) := by decide +kernel
theorem dX6_finds_198 : decode cX6_finds 198 = .ok (.getfield 69, 3) := by decide +kernel
theorem dX6_finds_201 : decode cX6_finds 201 = .ok (.iconst 0, 1) := by decide +kernel
theorem dX6_finds_202 : decode cX6_finds 202 = .ok (.iaload, 1) := by decide +kernel
theorem dX6_finds_203 : decode cX6_finds 203 = .ok (.ireturn, 1) := by decide +kernel
set_option maxRecDepth 20000 in
theorem ggX6_loads_X6_cellAt : GoodIn wsX6_loads wsX6_cellAt := goodIn_r _ [8] (by decide +kernel) (by decide +kernel)
set_option maxRecDepth 20000 in
theorem gX6_loads_X6_cellAt : GoodIn wsX6_loads (va_wsS RX6 106 yX6_cellAt wsX6_cellAt) := goodIn_app (goodIn_of _ (by decide +kernel)) ggX6_loads_X6_cellAt
set_option maxRecDepth 20000 in
theorem ggX6_loads_X6_needs : GoodIn wsX6_loads wsX6_needs := goodIn_r _ [12, 13, 14, 15, 7, 16, 33, 34, 35, 36, 37, 38, 39, 40, 41, 42, 43, 44, 45, 46, 47, 48, 49, 50, 51, 52, 53, 54, 55, 56, 57] (by decide +kernel) (by decide +kernel)
set_option maxRecDepth 20000 in
theorem gX6_loads_X6_needs : GoodIn wsX6_loads (wsV RX6 109 RX6 yX6_needs wsX6_needs) := goodIn_app (goodIn_of _ (by decide +kernel)) ggX6_loads_X6_needs
set_option maxRecDepth 20000 in
theorem ggX6_loads_X6_writes : GoodIn wsX6_loads wsX6_writes := goodIn_r _ [20, 21, 22, 23, 24, 25, 26, 27, 28, 29, 30, 7, 31, 32, 33, 34, 35, 36, 37, 38, 39, 40, 41, 42, 43, 44, 45, 46, 47, 48, 49, 50, 51, 52, 53, 54, 55, 56, 57] (by decide +kernel) (by decide +kernel)
set_option maxRecDepth 20000 in
theorem gX6_loads_X6_writes : GoodIn wsX6_loads (wsV RX6 119 RX6 yX6_writes wsX6_writes) := goodIn_app (goodIn_of _ (by decide +kernel)) ggX6_loads_X6_writes
theorem dX6_loads_0 : decode cX6_loads 0 = .ok (.iconst 0, 1) := by decide +kernel
theorem dX6_loads_1 : decode cX6_loads 1 = .ok (.istore_n 2, 1) := by decide +kernel
theorem dX6_loads_2 : decode cX6_loads 2 = .ok (.iconst 0, 1) := by decide +kernel
theorem dX6_loads_3 : decode cX6_loads 3 = .ok (.istore_n 3, 1) := by decide +kernel
theorem dX6_loads_4 : decode cX6_loads 4 = .ok (.iload_n 3, 1) := by decide +kernel
theorem dX6_loads_5 : decode cX6_loads 5 = .ok (.aload_n 0, 1) := by decide +kernel
theorem dX6_loads_6 : decode cX6_loads 6 = .ok (.getfield 45, 3) := by decide +kernel
theorem dX6_loads_9 : decode cX6_loads 9 = .ok (.iload_n 1, 1) := by decide +kernel
theorem dX6_loads_10 : decode cX6_loads 10 = .ok (.iaload, 1) := by decide +kernel
theorem dX6_loads_11 : decode cX6_loads 11 = .ok (.if_icmp .ge 78, 3) := by decide +kernel
theorem dX6_loads_14 : decode cX6_loads 14 = .ok (.iconst 0, 1) := by decide +kernel
theorem dX6_loads_15 : decode cX6_loads 15 = .ok (.istore 4, 2) := by decide +kernel
theorem dX6_loads_17 : decode cX6_loads 17 = .ok (.iload 4, 2) := by decide +kernel
theorem dX6_loads_19 : decode cX6_loads 19 = .ok (.iconst 4, 1) := by decide +kernel
theorem dX6_loads_20 : decode cX6_loads 20 = .ok (.aload_n 0, 1) := by decide +kernel
theorem dX6_loads_21 : decode cX6_loads 21 = .ok (.getfield 48, 3) := by decide +kernel
theorem dX6_loads_24 : decode cX6_loads 24 = .ok (.iload_n 1, 1) := by decide +kernel
theorem dX6_loads_25 : decode cX6_loads 25 = .ok (.iaload, 1) := by decide +kernel
theorem dX6_loads_26 : decode cX6_loads 26 = .ok (.imul, 1) := by decide +kernel
theorem dX6_loads_27 : decode cX6_loads 27 = .ok (.if_icmp .ge 56, 3) := by decide +kernel
theorem dX6_loads_30 : decode cX6_loads 30 = .ok (.aload_n 0, 1) := by decide +kernel
theorem dX6_loads_31 : decode cX6_loads 31 = .ok (.getfield 60, 3) := by decide +kernel
theorem dX6_loads_34 : decode cX6_loads 34 = .ok (.iload_n 1, 1) := by decide +kernel
theorem dX6_loads_35 : decode cX6_loads 35 = .ok (.iaload, 1) := by decide +kernel
theorem dX6_loads_36 : decode cX6_loads 36 = .ok (.aload_n 0, 1) := by decide +kernel
theorem dX6_loads_37 : decode cX6_loads 37 = .ok (.getfield 63, 3) := by decide +kernel
theorem dX6_loads_40 : decode cX6_loads 40 = .ok (.bipush 8, 2) := by decide +kernel
theorem dX6_loads_42 : decode cX6_loads 42 = .ok (.iload_n 1, 1) := by decide +kernel
theorem dX6_loads_43 : decode cX6_loads 43 = .ok (.imul, 1) := by decide +kernel
theorem dX6_loads_44 : decode cX6_loads 44 = .ok (.iload_n 3, 1) := by decide +kernel
theorem dX6_loads_45 : decode cX6_loads 45 = .ok (.iadd, 1) := by decide +kernel
theorem dX6_loads_46 : decode cX6_loads 46 = .ok (.iaload, 1) := by decide +kernel
theorem dX6_loads_47 : decode cX6_loads 47 = .ok (.iload 4, 2) := by decide +kernel
theorem dX6_loads_49 : decode cX6_loads 49 = .ok (.invokestatic 106, 3) := by decide +kernel
theorem dX6_loads_52 : decode cX6_loads 52 = .ok (.istore 5, 2) := by decide +kernel
theorem dX6_loads_54 : decode cX6_loads 54 = .ok (.iload_n 2, 1) := by decide +kernel
theorem dX6_loads_55 : decode cX6_loads 55 = .ok (.aload_n 0, 1) := by decide +kernel
theorem dX6_loads_56 : decode cX6_loads 56 = .ok (.iload 5, 2) := by decide +kernel
theorem dX6_loads_58 : decode cX6_loads 58 = .ok (.aload_n 0, 1) := by decide +kernel
theorem dX6_loads_59 : decode cX6_loads 59 = .ok (.iload_n 1, 1) := by decide +kernel
theorem dX6_loads_60 : decode cX6_loads 60 = .ok (.iload_n 3, 1) := by decide +kernel
theorem dX6_loads_61 : decode cX6_loads 61 = .ok (.iload 4, 2) := by decide +kernel
theorem dX6_loads_63 : decode cX6_loads 63 = .ok (.iconst 4, 1) := by decide +kernel
theorem dX6_loads_64 : decode cX6_loads 64 = .ok (.idiv, 1) := by decide +kernel
theorem dX6_loads_65 : decode cX6_loads 65 = .ok (.iload 4, 2) := by decide +kernel
theorem dX6_loads_67 : decode cX6_loads 67 = .ok (.iconst 4, 1) := by decide +kernel
theorem dX6_loads_68 : decode cX6_loads 68 = .ok (.irem, 1) := by decide +kernel
theorem dX6_loads_69 : decode cX6_loads 69 = .ok (.invokevirtual 109, 3) := by decide +kernel
theorem dX6_loads_72 : decode cX6_loads 72 = .ok (.invokevirtual 119, 3) := by decide +kernel
theorem dX6_loads_75 : decode cX6_loads 75 = .ok (.iadd, 1) := by decide +kernel
theorem dX6_loads_76 : decode cX6_loads 76 = .ok (.istore_n 2, 1) := by decide +kernel
theorem dX6_loads_77 : decode cX6_loads 77 = .ok (.iinc 4 1, 3) := by decide +kernel
theorem dX6_loads_80 : decode cX6_loads 80 = .ok (.goto (-63), 3) := by decide +kernel
theorem dX6_loads_83 : decode cX6_loads 83 = .ok (.iinc 3 1, 3) := by decide +kernel
theorem dX6_loads_86 : decode cX6_loads 86 = .ok (.goto (-82), 3) := by decide +kernel
theorem dX6_loads_89 : decode cX6_loads 89 = .ok (.iload_n 2, 1) := by decide +kernel
theorem dX6_loads_90 : decode cX6_loads 90 = .ok (.ireturn, 1) := by decide +kernel
theorem dX6_layerOn_0 : decode cX6_layerOn 0 = .ok (.iconst (-1), 1) := by decide +kernel
theorem dX6_layerOn_1 : decode cX6_layerOn 1 = .ok (.istore_n 2, 1) := by decide +kernel
theorem dX6_layerOn_2 : decode cX6_layerOn 2 = .ok (.iconst 0, 1) := by decide +kernel
theorem dX6_layerOn_3 : decode cX6_layerOn 3 = .ok (.istore_n 3, 1) := by decide +kernel
theorem dX6_layerOn_4 : decode cX6_layerOn 4 = .ok (.iload_n 3, 1) := by decide +kernel
theorem dX6_layerOn_5 : decode cX6_layerOn 5 = .ok (.aload_n 0, 1) := by decide +kernel
theorem dX6_layerOn_6 : decode cX6_layerOn 6 = .ok (.getfield 78, 3) := by decide +kernel
theorem dX6_layerOn_9 : decode cX6_layerOn 9 = .ok (.if_icmp .ge 25, 3) := by decide +kernel
theorem dX6_layerOn_12 : decode cX6_layerOn 12 = .ok (.aload_n 0, 1) := by decide +kernel
theorem dX6_layerOn_13 : decode cX6_layerOn 13 = .ok (.getfield 60, 3) := by decide +kernel
theorem dX6_layerOn_16 : decode cX6_layerOn 16 = .ok (.iload_n 3, 1) := by decide +kernel
theorem dX6_layerOn_17 : decode cX6_layerOn 17 = .ok (.iaload, 1) := by decide +kernel
theorem dX6_layerOn_18 : decode cX6_layerOn 18 = .ok (.iload_n 1, 1) := by decide +kernel
theorem dX6_layerOn_19 : decode cX6_layerOn 19 = .ok (.if_icmp .ne 7, 3) := by decide +kernel
theorem dX6_layerOn_22 : decode cX6_layerOn 22 = .ok (.iload_n 3, 1) := by decide +kernel
theorem dX6_layerOn_23 : decode cX6_layerOn 23 = .ok (.goto 4, 3) := by decide +kernel
theorem dX6_layerOn_26 : decode cX6_layerOn 26 = .ok (.iload_n 2, 1) := by decide +kernel
theorem dX6_layerOn_27 : decode cX6_layerOn 27 = .ok (.istore_n 2, 1) := by decide +kernel
theorem dX6_layerOn_28 : decode cX6_layerOn 28 = .ok (.iinc 3 1, 3) := by decide +kernel
theorem dX6_layerOn_31 : decode cX6_layerOn 31 = .ok (.goto (-27), 3) := by decide +kernel
theorem dX6_layerOn_34 : decode cX6_layerOn 34 = .ok (.iload_n 2, 1) := by decide +kernel
theorem dX6_layerOn_35 : decode cX6_layerOn 35 = .ok (.ireturn, 1) := by decide +kernel
set_option maxRecDepth 20000 in
theorem ggX6_place_X6_isLayer : GoodIn wsX6_place wsX6_isLayer := goodIn_r _ [11, 12, 13, 14, 10, 15, 66, 67, 68, 69, 70, 71, 72, 73, 74, 75, 76, 77, 78, 79, 80, 81, 82, 83, 84, 85, 86, 87, 88, 89, 90] (by decide +kernel) (by decide +kernel)
set_option maxRecDepth 20000 in
theorem gX6_place_X6_isLayer : GoodIn wsX6_place (wsV RX6 99 RX6 yX6_isLayer wsX6_isLayer) := goodIn_app (goodIn_of _ (by decide +kernel)) ggX6_place_X6_isLayer
set_option maxRecDepth 20000 in
theorem ggX6_place_X6_isTile : GoodIn wsX6_place wsX6_isTile := goodIn_r _ [18, 13, 14, 10, 15] (by decide +kernel) (by decide +kernel)
set_option maxRecDepth 20000 in
theorem gX6_place_X6_isTile : GoodIn wsX6_place (va_wsS RX6 85 yX6_isTile wsX6_isTile) := goodIn_app (goodIn_of _ (by decide +kernel)) ggX6_place_X6_isTile
set_option maxRecDepth 20000 in
theorem ggX6_place_X6_layerOn : GoodIn wsX6_place wsX6_layerOn := goodIn_r _ [22, 12, 1, 66, 67, 68, 69, 70, 71, 72, 73, 74, 75, 76, 77, 78, 79, 80, 81, 82, 83, 84, 85, 86, 87, 88, 89, 90] (by decide +kernel) (by decide +kernel)
set_option maxRecDepth 20000 in
theorem gX6_place_X6_layerOn : GoodIn wsX6_place (wsV RX6 123 RX6 yX6_layerOn wsX6_layerOn) := goodIn_app (goodIn_of _ (by decide +kernel)) ggX6_place_X6_layerOn
set_option maxRecDepth 20000 in
theorem ggX6_place_X6_finds : GoodIn wsX6_place wsX6_finds := goodIn_r _ [26, 3, 4, 5, 27, 28, 29, 10, 30, 31, 32, 33, 34, 35, 36, 37, 38, 39, 40, 41, 42, 43, 44, 45, 46, 47, 66, 67, 68, 69, 70, 71, 72, 73, 74, 75, 76, 77, 78, 79, 80, 81, 82, 83, 84, 85, 86, 87, 88, 89, 90] (by decide +kernel) (by decide +kernel)
set_option maxRecDepth 20000 in
theorem gX6_place_X6_finds : GoodIn wsX6_place (wsV RX6 126 RX6 yX6_finds wsX6_finds) := goodIn_app (goodIn_of _ (by decide +kernel)) ggX6_place_X6_finds
set_option maxRecDepth 20000 in
theorem ggX6_place_X6_loads : GoodIn wsX6_place wsX6_loads := goodIn_r _ [51, 3, 31, 1, 6, 34, 35, 10, 36, 37, 38, 39, 40, 41, 42, 43, 44, 52, 53, 54, 55, 56, 33, 57, 58, 59, 60, 32, 61, 62, 63, 64, 65, 66, 67, 68, 69, 70, 71, 72, 73, 74, 75, 76, 77, 78, 79, 80, 81, 82, 83, 84, 85, 86, 87, 88, 89, 90] (by decide +kernel) (by decide +kernel)
set_option maxRecDepth 20000 in
theorem gX6_place_X6_loads : GoodIn wsX6_place (wsV RX6 129 RX6 yX6_loads wsX6_loads) := goodIn_app (goodIn_of _ (by decide +kernel)) ggX6_place_X6_loads
theorem dX6_place_0 : decode cX6_place 0 = .ok (.aload_n 0, 1) := by decide +kernel
theorem dX6_place_1 : decode cX6_place 1 = .ok (.aload_n 0, 1) := by decide +kernel
theorem dX6_place_2 : decode cX6_place 2 = .ok (.iload_n 1, 1) := by decide +kernel
theorem dX6_place_3 : decode cX6_place 3 = .ok (.invokevirtual 99, 3) := by decide +kernel
theorem dX6_place_6 : decode cX6_place 6 = .ok (.ifCond .eq 10, 3) := by decide +kernel
theorem dX6_place_9 : decode cX6_place 9 = .ok (.iload_n 2, 1) := by decide +kernel
theorem dX6_place_10 : decode cX6_place 10 = .ok (.invokestatic 85, 3) := by decide +kernel
theorem dX6_place_13 : decode cX6_place 13 = .ok (.ifCond .ne 7, 3) := by decide +kernel
theorem dX6_place_16 : decode cX6_place 16 = .ok (.iconst 1, 1) := by decide +kernel
theorem dX6_place_17 : decode cX6_place 17 = .ok (.goto 27, 3) := by decide +kernel
theorem dX6_place_20 : decode cX6_place 20 = .ok (.aload_n 0, 1) := by decide +kernel
theorem dX6_place_21 : decode cX6_place 21 = .ok (.getfield 60, 3) := by decide +kernel
theorem dX6_place_24 : decode cX6_place 24 = .ok (.iload_n 1, 1) := by decide +kernel
theorem dX6_place_25 : decode cX6_place 25 = .ok (.iaload, 1) := by decide +kernel
theorem dX6_place_26 : decode cX6_place 26 = .ok (.iconst (-1), 1) := by decide +kernel
theorem dX6_place_27 : decode cX6_place 27 = .ok (.if_icmp .ne 12, 3) := by decide +kernel
theorem dX6_place_30 : decode cX6_place 30 = .ok (.aload_n 0, 1) := by decide +kernel
theorem dX6_place_31 : decode cX6_place 31 = .ok (.iload_n 2, 1) := by decide +kernel
theorem dX6_place_32 : decode cX6_place 32 = .ok (.invokevirtual 123, 3) := by decide +kernel
theorem dX6_place_35 : decode cX6_place 35 = .ok (.iconst (-1), 1) := by decide +kernel
theorem dX6_place_36 : decode cX6_place 36 = .ok (.if_icmp .eq 7, 3) := by decide +kernel
theorem dX6_place_39 : decode cX6_place 39 = .ok (.iconst 2, 1) := by decide +kernel
theorem dX6_place_40 : decode cX6_place 40 = .ok (.goto 4, 3) := by decide +kernel
theorem dX6_place_43 : decode cX6_place 43 = .ok (.iconst 0, 1) := by decide +kernel
theorem dX6_place_44 : decode cX6_place 44 = .ok (.putfield 75, 3) := by decide +kernel
theorem dX6_place_47 : decode cX6_place 47 = .ok (.aload_n 0, 1) := by decide +kernel
theorem dX6_place_48 : decode cX6_place 48 = .ok (.getfield 75, 3) := by decide +kernel
theorem dX6_place_51 : decode cX6_place 51 = .ok (.ifCond .le 5, 3) := by decide +kernel
theorem dX6_place_54 : decode cX6_place 54 = .ok (.iconst 0, 1) := by decide +kernel
theorem dX6_place_55 : decode cX6_place 55 = .ok (.ireturn, 1) := by decide +kernel
theorem dX6_place_56 : decode cX6_place 56 = .ok (.aload_n 0, 1) := by decide +kernel
theorem dX6_place_57 : decode cX6_place 57 = .ok (.iload_n 1, 1) := by decide +kernel
theorem dX6_place_58 : decode cX6_place 58 = .ok (.iload_n 2, 1) := by decide +kernel
theorem dX6_place_59 : decode cX6_place 59 = .ok (.invokevirtual 126, 3) := by decide +kernel
theorem dX6_place_62 : decode cX6_place 62 = .ok (.pop, 1) := by decide +kernel
theorem dX6_place_63 : decode cX6_place 63 = .ok (.iconst 0, 1) := by decide +kernel
theorem dX6_place_64 : decode cX6_place 64 = .ok (.istore_n 3, 1) := by decide +kernel
theorem dX6_place_65 : decode cX6_place 65 = .ok (.iconst 0, 1) := by decide +kernel
theorem dX6_place_66 : decode cX6_place 66 = .ok (.istore 4, 2) := by decide +kernel
theorem dX6_place_68 : decode cX6_place 68 = .ok (.iload 4, 2) := by decide +kernel
theorem dX6_place_70 : decode cX6_place 70 = .ok (.aload_n 0, 1) := by decide +kernel
theorem dX6_place_71 : decode cX6_place 71 = .ok (.getfield 45, 3) := by decide +kernel
theorem dX6_place_74 : decode cX6_place 74 = .ok (.iload_n 1, 1) := by decide +kernel
theorem dX6_place_75 : decode cX6_place 75 = .ok (.iaload, 1) := by decide +kernel
theorem dX6_place_76 : decode cX6_place 76 = .ok (.if_icmp .ge 112, 3) := by decide +kernel
theorem dX6_place_79 : decode cX6_place 79 = .ok (.iconst (-1), 1) := by decide +kernel
theorem dX6_place_80 : decode cX6_place 80 = .ok (.istore 5, 2) := by decide +kernel
theorem dX6_place_82 : decode cX6_place 82 = .ok (.bipush 7, 2) := by decide +kernel
theorem dX6_place_84 : decode cX6_place 84 = .ok (.istore 6, 2) := by decide +kernel
theorem dX6_place_86 : decode cX6_place 86 = .ok (.iload 6, 2) := by decide +kernel
theorem dX6_place_88 : decode cX6_place 88 = .ok (.ifCond .lt 73, 3) := by decide +kernel
theorem dX6_place_91 : decode cX6_place 91 = .ok (.iload_n 3, 1) := by decide +kernel
theorem dX6_place_92 : decode cX6_place 92 = .ok (.iload 6, 2) := by decide +kernel
theorem dX6_place_94 : decode cX6_place 94 = .ok (.ishr, 1) := by decide +kernel
theorem dX6_place_95 : decode cX6_place 95 = .ok (.iconst 1, 1) := by decide +kernel
theorem dX6_place_96 : decode cX6_place 96 = .ok (.iand, 1) := by decide +kernel
theorem dX6_place_97 : decode cX6_place 97 = .ok (.ifCond .ne 7, 3) := by decide +kernel
theorem dX6_place_100 : decode cX6_place 100 = .ok (.iconst 1, 1) := by decide +kernel
theorem dX6_place_101 : decode cX6_place 101 = .ok (.goto 4, 3) := by decide +kernel
theorem dX6_place_104 : decode cX6_place 104 = .ok (.iconst 0, 1) := by decide +kernel
theorem dX6_place_105 : decode cX6_place 105 = .ok (.istore 7, 2) := by decide +kernel
theorem dX6_place_107 : decode cX6_place 107 = .ok (.iload 7, 2) := by decide +kernel
theorem dX6_place_109 : decode cX6_place 109 = .ok (.ifCond .eq 42, 3) := by decide +kernel
theorem dX6_place_112 : decode cX6_place 112 = .ok (.aload_n 0, 1) := by decide +kernel
theorem dX6_place_113 : decode cX6_place 113 = .ok (.getfield 66, 3) := by decide +kernel
theorem dX6_place_116 : decode cX6_place 116 = .ok (.bipush 8, 2) := by decide +kernel
theorem dX6_place_118 : decode cX6_place 118 = .ok (.iload 4, 2) := by decide +kernel
theorem dX6_place_120 : decode cX6_place 120 = .ok (.imul, 1) := by decide +kernel
theorem dX6_place_121 : decode cX6_place 121 = .ok (.iload 6, 2) := by decide +kernel
theorem dX6_place_123 : decode cX6_place 123 = .ok (.iadd, 1) := by decide +kernel
theorem dX6_place_124 : decode cX6_place 124 = .ok (.iaload, 1) := by decide +kernel
theorem dX6_place_125 : decode cX6_place 125 = .ok (.aload_n 0, 1) := by decide +kernel
theorem dX6_place_126 : decode cX6_place 126 = .ok (.getfield 69, 3) := by decide +kernel
theorem dX6_place_129 : decode cX6_place 129 = .ok (.iload_n 3, 1) := by decide +kernel
theorem dX6_place_130 : decode cX6_place 130 = .ok (.iconst 1, 1) := by decide +kernel
theorem dX6_place_131 : decode cX6_place 131 = .ok (.iload 6, 2) := by decide +kernel
theorem dX6_place_133 : decode cX6_place 133 = .ok (.ishl, 1) := by decide +kernel
theorem dX6_place_134 : decode cX6_place 134 = .ok (.ior, 1) := by decide +kernel
theorem dX6_place_135 : decode cX6_place 135 = .ok (.iaload, 1) := by decide +kernel
theorem dX6_place_136 : decode cX6_place 136 = .ok (.iadd, 1) := by decide +kernel
theorem dX6_place_137 : decode cX6_place 137 = .ok (.aload_n 0, 1) := by decide +kernel
theorem dX6_place_138 : decode cX6_place 138 = .ok (.getfield 69, 3) := by decide +kernel
theorem dX6_place_141 : decode cX6_place 141 = .ok (.iload_n 3, 1) := by decide +kernel
theorem dX6_place_142 : decode cX6_place 142 = .ok (.iaload, 1) := by decide +kernel
theorem dX6_place_143 : decode cX6_place 143 = .ok (.if_icmp .ne 8, 3) := by decide +kernel
theorem dX6_place_146 : decode cX6_place 146 = .ok (.iload 6, 2) := by decide +kernel
theorem dX6_place_148 : decode cX6_place 148 = .ok (.goto 5, 3) := by decide +kernel
theorem dX6_place_151 : decode cX6_place 151 = .ok (.iload 5, 2) := by decide +kernel
theorem dX6_place_153 : decode cX6_place 153 = .ok (.istore 5, 2) := by decide +kernel
theorem dX6_place_155 : decode cX6_place 155 = .ok (.iinc 6 (-1), 3) := by decide +kernel
theorem dX6_place_158 : decode cX6_place 158 = .ok (.goto (-72), 3) := by decide +kernel
theorem dX6_place_161 : decode cX6_place 161 = .ok (.aload_n 0, 1) := by decide +kernel
theorem dX6_place_162 : decode cX6_place 162 = .ok (.getfield 63, 3) := by decide +kernel
theorem dX6_place_165 : decode cX6_place 165 = .ok (.bipush 8, 2) := by decide +kernel
theorem dX6_place_167 : decode cX6_place 167 = .ok (.iload_n 1, 1) := by decide +kernel
theorem dX6_place_168 : decode cX6_place 168 = .ok (.imul, 1) := by decide +kernel
theorem dX6_place_169 : decode cX6_place 169 = .ok (.iload 4, 2) := by decide +kernel
theorem dX6_place_171 : decode cX6_place 171 = .ok (.iadd, 1) := by decide +kernel
theorem dX6_place_172 : decode cX6_place 172 = .ok (.iload 5, 2) := by decide +kernel
theorem dX6_place_174 : decode cX6_place 174 = .ok (.iastore, 1) := by decide +kernel
theorem dX6_place_175 : decode cX6_place 175 = .ok (.iload_n 3, 1) := by decide +kernel
theorem dX6_place_176 : decode cX6_place 176 = .ok (.iconst 1, 1) := by decide +kernel
theorem dX6_place_177 : decode cX6_place 177 = .ok (.iload 5, 2) := by decide +kernel
theorem dX6_place_179 : decode cX6_place 179 = .ok (.ishl, 1) := by decide +kernel
theorem dX6_place_180 : decode cX6_place 180 = .ok (.ior, 1) := by decide +kernel
theorem dX6_place_181 : decode cX6_place 181 = .ok (.istore_n 3, 1) := by decide +kernel
theorem dX6_place_182 : decode cX6_place 182 = .ok (.iinc 4 1, 3) := by decide +kernel
theorem dX6_place_185 : decode cX6_place 185 = .ok (.goto (-117), 3) := by decide +kernel
theorem dX6_place_188 : decode cX6_place 188 = .ok (.aload_n 0, 1) := by decide +kernel
theorem dX6_place_189 : decode cX6_place 189 = .ok (.getfield 60, 3) := by decide +kernel
theorem dX6_place_192 : decode cX6_place 192 = .ok (.iload_n 1, 1) := by decide +kernel
theorem dX6_place_193 : decode cX6_place 193 = .ok (.iload_n 2, 1) := by decide +kernel
theorem dX6_place_194 : decode cX6_place 194 = .ok (.iastore, 1) := by decide +kernel
theorem dX6_place_195 : decode cX6_place 195 = .ok (.aload_n 0, 1) := by decide +kernel
theorem dX6_place_196 : decode cX6_place 196 = .ok (.iload_n 1, 1) := by decide +kernel
theorem dX6_place_197 : decode cX6_place 197 = .ok (.invokevirtual 129, 3) := by decide +kernel
theorem dX6_place_200 : decode cX6_place 200 = .ok (.ireturn, 1) := by decide +kernel
set_option maxRecDepth 20000 in
theorem ggX6_placedCode_X6_isLayer : GoodIn wsX6_placedCode wsX6_isLayer := goodIn_r _ [6, 7, 8, 9, 5, 10, 11, 12, 13, 14, 15, 16, 17, 18, 19, 20, 21, 22, 23, 24, 25, 26, 27, 28, 29, 30, 31, 32, 33, 34, 35] (by decide +kernel) (by decide +kernel)
set_option maxRecDepth 20000 in
theorem gX6_placedCode_X6_isLayer : GoodIn wsX6_placedCode (wsV RX6 99 RX6 yX6_isLayer wsX6_isLayer) := goodIn_app (goodIn_of _ (by decide +kernel)) ggX6_placedCode_X6_isLayer
theorem dX6_placedCode_0 : decode cX6_placedCode 0 = .ok (.aload_n 0, 1) := by decide +kernel
theorem dX6_placedCode_1 : decode cX6_placedCode 1 = .ok (.iload_n 1, 1) := by decide +kernel
theorem dX6_placedCode_2 : decode cX6_placedCode 2 = .ok (.invokevirtual 99, 3) := by decide +kernel
theorem dX6_placedCode_5 : decode cX6_placedCode 5 = .ok (.ifCond .ne 7, 3) := by decide +kernel
theorem dX6_placedCode_8 : decode cX6_placedCode 8 = .ok (.iconst 1, 1) := by decide +kernel
theorem dX6_placedCode_9 : decode cX6_placedCode 9 = .ok (.goto 18, 3) := by decide +kernel
theorem dX6_placedCode_12 : decode cX6_placedCode 12 = .ok (.aload_n 0, 1) := by decide +kernel
theorem dX6_placedCode_13 : decode cX6_placedCode 13 = .ok (.getfield 60, 3) := by decide +kernel
theorem dX6_placedCode_16 : decode cX6_placedCode 16 = .ok (.iload_n 1, 1) := by decide +kernel
theorem dX6_placedCode_17 : decode cX6_placedCode 17 = .ok (.iaload, 1) := by decide +kernel
theorem dX6_placedCode_18 : decode cX6_placedCode 18 = .ok (.iconst (-1), 1) := by decide +kernel
theorem dX6_placedCode_19 : decode cX6_placedCode 19 = .ok (.if_icmp .ne 7, 3) := by decide +kernel
theorem dX6_placedCode_22 : decode cX6_placedCode 22 = .ok (.iconst 2, 1) := by decide +kernel
theorem dX6_placedCode_23 : decode cX6_placedCode 23 = .ok (.goto 4, 3) := by decide +kernel
theorem dX6_placedCode_26 : decode cX6_placedCode 26 = .ok (.iconst 0, 1) := by decide +kernel
theorem dX6_placedCode_27 : decode cX6_placedCode 27 = .ok (.ireturn, 1) := by decide +kernel
set_option maxRecDepth 20000 in
theorem ggX6_load_X6_placedCode : GoodIn wsX6_load wsX6_placedCode := goodIn_r _ [6, 7, 8, 9, 10, 5, 11, 12, 13, 14, 15, 50, 51, 52, 53, 54, 55, 56, 57, 58, 59, 60, 61, 62, 63, 64, 65, 66, 67, 68, 69, 70, 71, 72, 73, 74] (by decide +kernel) (by decide +kernel)
set_option maxRecDepth 20000 in
theorem gX6_load_X6_placedCode : GoodIn wsX6_load (wsV RX6 132 RX6 yX6_placedCode wsX6_placedCode) := goodIn_app (goodIn_of _ (by decide +kernel)) ggX6_load_X6_placedCode
set_option maxRecDepth 20000 in
theorem ggX6_load_X6_loads : GoodIn wsX6_load wsX6_loads := goodIn_r _ [19, 20, 21, 7, 22, 23, 24, 5, 25, 26, 27, 28, 29, 30, 31, 32, 33, 34, 35, 36, 37, 38, 39, 40, 41, 42, 43, 44, 45, 46, 47, 48, 49, 50, 51, 52, 53, 54, 55, 56, 57, 58, 59, 60, 61, 62, 63, 64, 65, 66, 67, 68, 69, 70, 71, 72, 73, 74] (by decide +kernel) (by decide +kernel)
set_option maxRecDepth 20000 in
theorem gX6_load_X6_loads : GoodIn wsX6_load (wsV RX6 129 RX6 yX6_loads wsX6_loads) := goodIn_app (goodIn_of _ (by decide +kernel)) ggX6_load_X6_loads
theorem dX6_load_0 : decode cX6_load 0 = .ok (.aload_n 0, 1) := by decide +kernel
theorem dX6_load_1 : decode cX6_load 1 = .ok (.aload_n 0, 1) := by decide +kernel
theorem dX6_load_2 : decode cX6_load 2 = .ok (.iload_n 1, 1) := by decide +kernel
theorem dX6_load_3 : decode cX6_load 3 = .ok (.invokevirtual 132, 3) := by decide +kernel
theorem dX6_load_6 : decode cX6_load 6 = .ok (.putfield 75, 3) := by decide +kernel
theorem dX6_load_9 : decode cX6_load 9 = .ok (.aload_n 0, 1) := by decide +kernel
theorem dX6_load_10 : decode cX6_load 10 = .ok (.getfield 75, 3) := by decide +kernel
theorem dX6_load_13 : decode cX6_load 13 = .ok (.ifCond .le 7, 3) := by decide +kernel
theorem dX6_load_16 : decode cX6_load 16 = .ok (.iconst 0, 1) := by decide +kernel
theorem dX6_load_17 : decode cX6_load 17 = .ok (.goto 8, 3) := by decide +kernel
theorem dX6_load_20 : decode cX6_load 20 = .ok (.aload_n 0, 1) := by decide +kernel
theorem dX6_load_21 : decode cX6_load 21 = .ok (.iload_n 1, 1) := by decide +kernel
theorem dX6_load_22 : decode cX6_load 22 = .ok (.invokevirtual 129, 3) := by decide +kernel
theorem dX6_load_25 : decode cX6_load 25 = .ok (.ireturn, 1) := by decide +kernel
set_option maxRecDepth 20000 in
theorem ggX6_lift_X6_placedCode : GoodIn wsX6_lift wsX6_placedCode := goodIn_r _ [7, 2, 8, 9, 10, 6, 11, 12, 13, 14, 15, 16, 17, 18, 19, 20, 21, 22, 23, 24, 25, 26, 27, 28, 29, 30, 31, 32, 33, 34, 35, 36, 37, 38, 39, 40] (by decide +kernel) (by decide +kernel)
set_option maxRecDepth 20000 in
theorem gX6_lift_X6_placedCode : GoodIn wsX6_lift (wsV RX6 132 RX6 yX6_placedCode wsX6_placedCode) := goodIn_app (goodIn_of _ (by decide +kernel)) ggX6_lift_X6_placedCode
theorem dX6_lift_0 : decode cX6_lift 0 = .ok (.aload_n 0, 1) := by decide +kernel
theorem dX6_lift_1 : decode cX6_lift 1 = .ok (.aload_n 0, 1) := by decide +kernel
theorem dX6_lift_2 : decode cX6_lift 2 = .ok (.iload_n 1, 1) := by decide +kernel
theorem dX6_lift_3 : decode cX6_lift 3 = .ok (.invokevirtual 132, 3) := by decide +kernel
theorem dX6_lift_6 : decode cX6_lift 6 = .ok (.putfield 75, 3) := by decide +kernel
theorem dX6_lift_9 : decode cX6_lift 9 = .ok (.aload_n 0, 1) := by decide +kernel
theorem dX6_lift_10 : decode cX6_lift 10 = .ok (.getfield 75, 3) := by decide +kernel
theorem dX6_lift_13 : decode cX6_lift 13 = .ok (.ifCond .le 5, 3) := by decide +kernel
theorem dX6_lift_16 : decode cX6_lift 16 = .ok (.iconst 0, 1) := by decide +kernel
theorem dX6_lift_17 : decode cX6_lift 17 = .ok (.ireturn, 1) := by decide +kernel
theorem dX6_lift_18 : decode cX6_lift 18 = .ok (.aload_n 0, 1) := by decide +kernel
theorem dX6_lift_19 : decode cX6_lift 19 = .ok (.getfield 60, 3) := by decide +kernel
theorem dX6_lift_22 : decode cX6_lift 22 = .ok (.iload_n 1, 1) := by decide +kernel
theorem dX6_lift_23 : decode cX6_lift 23 = .ok (.iaload, 1) := by decide +kernel
theorem dX6_lift_24 : decode cX6_lift 24 = .ok (.istore_n 2, 1) := by decide +kernel
theorem dX6_lift_25 : decode cX6_lift 25 = .ok (.aload_n 0, 1) := by decide +kernel
theorem dX6_lift_26 : decode cX6_lift 26 = .ok (.getfield 60, 3) := by decide +kernel
theorem dX6_lift_29 : decode cX6_lift 29 = .ok (.iload_n 1, 1) := by decide +kernel
theorem dX6_lift_30 : decode cX6_lift 30 = .ok (.iconst (-1), 1) := by decide +kernel
theorem dX6_lift_31 : decode cX6_lift 31 = .ok (.iastore, 1) := by decide +kernel
theorem dX6_lift_32 : decode cX6_lift 32 = .ok (.iload_n 2, 1) := by decide +kernel
theorem dX6_lift_33 : decode cX6_lift 33 = .ok (.ireturn, 1) := by decide +kernel
theorem dX6_sticks_0 : decode cX6_sticks 0 = .ok (.aload_n 0, 1) := by decide +kernel
theorem dX6_sticks_1 : decode cX6_sticks 1 = .ok (.getfield 23, 3) := by decide +kernel
theorem dX6_sticks_4 : decode cX6_sticks 4 = .ok (.iload_n 1, 1) := by decide +kernel
theorem dX6_sticks_5 : decode cX6_sticks 5 = .ok (.iconst 1, 1) := by decide +kernel
theorem dX6_sticks_6 : decode cX6_sticks 6 = .ok (.bastore, 1) := by decide +kernel
theorem dX6_sticks_7 : decode cX6_sticks 7 = .ok (.aload_n 0, 1) := by decide +kernel
theorem dX6_sticks_8 : decode cX6_sticks 8 = .ok (.getfield 13, 3) := by decide +kernel
theorem dX6_sticks_11 : decode cX6_sticks 11 = .ok (.iload_n 1, 1) := by decide +kernel
theorem dX6_sticks_12 : decode cX6_sticks 12 = .ok (.iload_n 2, 1) := by decide +kernel
theorem dX6_sticks_13 : decode cX6_sticks 13 = .ok (.iastore, 1) := by decide +kernel
theorem dX6_sticks_14 : decode cX6_sticks 14 = .ok (.return_, 1) := by decide +kernel
set_option maxRecDepth 20000 in
theorem ggX6_stick_X6_isCell : GoodIn wsX6_stick wsX6_isCell := goodIn_r _ [6, 7, 8, 5, 9, 10, 11, 12] (by decide +kernel) (by decide +kernel)
set_option maxRecDepth 20000 in
theorem gX6_stick_X6_isCell : GoodIn wsX6_stick (va_wsS RX6 135 yX6_isCell wsX6_isCell) := goodIn_app (goodIn_of _ (by decide +kernel)) ggX6_stick_X6_isCell
set_option maxRecDepth 20000 in
theorem ggX6_stick_X6_in : GoodIn wsX6_stick wsX6_in := goodIn_r _ [12] (by decide +kernel) (by decide +kernel)
set_option maxRecDepth 20000 in
theorem gX6_stick_X6_in : GoodIn wsX6_stick (va_wsS RX6 81 yX6_in wsX6_in) := goodIn_app (goodIn_of _ (by decide +kernel)) ggX6_stick_X6_in
set_option maxRecDepth 20000 in
theorem ggX6_stick_X6_cellAt : GoodIn wsX6_stick wsX6_cellAt := goodIn_r _ [15] (by decide +kernel) (by decide +kernel)
set_option maxRecDepth 20000 in
theorem gX6_stick_X6_cellAt : GoodIn wsX6_stick (va_wsS RX6 106 yX6_cellAt wsX6_cellAt) := goodIn_app (goodIn_of _ (by decide +kernel)) ggX6_stick_X6_cellAt
set_option maxRecDepth 20000 in
theorem ggX6_stick_X6_sticks : GoodIn wsX6_stick wsX6_sticks := goodIn_r _ [19, 1, 20, 21, 22, 23, 24, 25, 26, 27, 28, 29, 30, 31, 32, 33, 34, 35, 36, 37, 38, 39, 40, 41, 42, 43, 44, 45] (by decide +kernel) (by decide +kernel)
set_option maxRecDepth 20000 in
theorem gX6_stick_X6_sticks : GoodIn wsX6_stick (wsV RX6 138 RX6 yX6_sticks wsX6_sticks) := goodIn_app (goodIn_of _ (by decide +kernel)) ggX6_stick_X6_sticks
theorem dX6_stick_0 : decode cX6_stick 0 = .ok (.aload_n 0, 1) := by decide +kernel
theorem dX6_stick_1 : decode cX6_stick 1 = .ok (.iload_n 1, 1) := by decide +kernel
theorem dX6_stick_2 : decode cX6_stick 2 = .ok (.iload_n 2, 1) := by decide +kernel
theorem dX6_stick_3 : decode cX6_stick 3 = .ok (.iload_n 3, 1) := by decide +kernel
theorem dX6_stick_4 : decode cX6_stick 4 = .ok (.invokestatic 135, 3) := by decide +kernel
theorem dX6_stick_7 : decode cX6_stick 7 = .ok (.ifCond .ne 7, 3) := by decide +kernel
theorem dX6_stick_10 : decode cX6_stick 10 = .ok (.iconst 1, 1) := by decide +kernel
theorem dX6_stick_11 : decode cX6_stick 11 = .ok (.goto 37, 3) := by decide +kernel
theorem dX6_stick_14 : decode cX6_stick 14 = .ok (.iload 4, 2) := by decide +kernel
theorem dX6_stick_16 : decode cX6_stick 16 = .ok (.iconst 0, 1) := by decide +kernel
theorem dX6_stick_17 : decode cX6_stick 17 = .ok (.bipush 15, 2) := by decide +kernel
theorem dX6_stick_19 : decode cX6_stick 19 = .ok (.invokestatic 81, 3) := by decide +kernel
theorem dX6_stick_22 : decode cX6_stick 22 = .ok (.ifCond .ne 7, 3) := by decide +kernel
theorem dX6_stick_25 : decode cX6_stick 25 = .ok (.iconst 2, 1) := by decide +kernel
theorem dX6_stick_26 : decode cX6_stick 26 = .ok (.goto 22, 3) := by decide +kernel
theorem dX6_stick_29 : decode cX6_stick 29 = .ok (.aload_n 0, 1) := by decide +kernel
theorem dX6_stick_30 : decode cX6_stick 30 = .ok (.getfield 23, 3) := by decide +kernel
theorem dX6_stick_33 : decode cX6_stick 33 = .ok (.iload_n 1, 1) := by decide +kernel
theorem dX6_stick_34 : decode cX6_stick 34 = .ok (.iload_n 2, 1) := by decide +kernel
theorem dX6_stick_35 : decode cX6_stick 35 = .ok (.iload_n 3, 1) := by decide +kernel
theorem dX6_stick_36 : decode cX6_stick 36 = .ok (.invokestatic 106, 3) := by decide +kernel
theorem dX6_stick_39 : decode cX6_stick 39 = .ok (.baload, 1) := by decide +kernel
theorem dX6_stick_40 : decode cX6_stick 40 = .ok (.ifCond .eq 7, 3) := by decide +kernel
theorem dX6_stick_43 : decode cX6_stick 43 = .ok (.iconst 3, 1) := by decide +kernel
theorem dX6_stick_44 : decode cX6_stick 44 = .ok (.goto 4, 3) := by decide +kernel
theorem dX6_stick_47 : decode cX6_stick 47 = .ok (.iconst 0, 1) := by decide +kernel
theorem dX6_stick_48 : decode cX6_stick 48 = .ok (.putfield 75, 3) := by decide +kernel
theorem dX6_stick_51 : decode cX6_stick 51 = .ok (.aload_n 0, 1) := by decide +kernel
theorem dX6_stick_52 : decode cX6_stick 52 = .ok (.getfield 75, 3) := by decide +kernel
theorem dX6_stick_55 : decode cX6_stick 55 = .ok (.ifCond .ne 15, 3) := by decide +kernel
theorem dX6_stick_58 : decode cX6_stick 58 = .ok (.aload_n 0, 1) := by decide +kernel
theorem dX6_stick_59 : decode cX6_stick 59 = .ok (.iload_n 1, 1) := by decide +kernel
theorem dX6_stick_60 : decode cX6_stick 60 = .ok (.iload_n 2, 1) := by decide +kernel
theorem dX6_stick_61 : decode cX6_stick 61 = .ok (.iload_n 3, 1) := by decide +kernel
theorem dX6_stick_62 : decode cX6_stick 62 = .ok (.invokestatic 106, 3) := by decide +kernel
theorem dX6_stick_65 : decode cX6_stick 65 = .ok (.iload 4, 2) := by decide +kernel
theorem dX6_stick_67 : decode cX6_stick 67 = .ok (.invokevirtual 138, 3) := by decide +kernel
theorem dX6_stick_70 : decode cX6_stick 70 = .ok (.return_, 1) := by decide +kernel
theorem dX6_drawn_0 : decode cX6_drawn 0 = .ok (.ldc2_w 142, 3) := by decide +kernel
theorem dX6_drawn_3 : decode cX6_drawn 3 = .ok (.iload_n 0, 1) := by decide +kernel
theorem dX6_drawn_4 : decode cX6_drawn 4 = .ok (.i2l, 1) := by decide +kernel
theorem dX6_drawn_5 : decode cX6_drawn 5 = .ok (.lmul, 1) := by decide +kernel
theorem dX6_drawn_6 : decode cX6_drawn 6 = .ok (.ldc2_w 144, 3) := by decide +kernel
theorem dX6_drawn_9 : decode cX6_drawn 9 = .ok (.ladd, 1) := by decide +kernel
theorem dX6_drawn_10 : decode cX6_drawn 10 = .ok (.ldc2_w 146, 3) := by decide +kernel
theorem dX6_drawn_13 : decode cX6_drawn 13 = .ok (.lrem, 1) := by decide +kernel
theorem dX6_drawn_14 : decode cX6_drawn 14 = .ok (.l2i, 1) := by decide +kernel
theorem dX6_drawn_15 : decode cX6_drawn 15 = .ok (.ireturn, 1) := by decide +kernel
set_option maxRecDepth 20000 in
theorem ggX6_spoil_X6_isTile : GoodIn wsX6_spoil wsX6_isTile := goodIn_r _ [7, 8, 9, 6, 10] (by decide +kernel) (by decide +kernel)
set_option maxRecDepth 20000 in
theorem gX6_spoil_X6_isTile : GoodIn wsX6_spoil (va_wsS RX6 85 yX6_isTile wsX6_isTile) := goodIn_app (goodIn_of _ (by decide +kernel)) ggX6_spoil_X6_isTile
set_option maxRecDepth 20000 in
theorem ggX6_spoil_X6_in : GoodIn wsX6_spoil wsX6_in := goodIn_r _ [10] (by decide +kernel) (by decide +kernel)
set_option maxRecDepth 20000 in
theorem gX6_spoil_X6_in : GoodIn wsX6_spoil (va_wsS RX6 81 yX6_in wsX6_in) := goodIn_app (goodIn_of _ (by decide +kernel)) ggX6_spoil_X6_in
set_option maxRecDepth 20000 in
theorem ggX6_spoil_X6_drawn : GoodIn wsX6_spoil wsX6_drawn := goodIn_r _ [13, 14, 15, 16] (by decide +kernel) (by decide +kernel)
set_option maxRecDepth 20000 in
theorem gX6_spoil_X6_drawn : GoodIn wsX6_spoil (va_wsS RX6 149 yX6_drawn wsX6_drawn) := goodIn_app (goodIn_of _ (by decide +kernel)) ggX6_spoil_X6_drawn
set_option maxRecDepth 20000 in
theorem ggX6_spoil_X6_sticks : GoodIn wsX6_spoil wsX6_sticks := goodIn_r _ [20, 3, 21, 22, 23, 24, 25, 26, 27, 28, 29, 30, 31, 32, 33, 34, 35, 36, 37, 38, 39, 40, 41, 42, 43, 44, 45, 46] (by decide +kernel) (by decide +kernel)
set_option maxRecDepth 20000 in
theorem gX6_spoil_X6_sticks : GoodIn wsX6_spoil (wsV RX6 138 RX6 yX6_sticks wsX6_sticks) := goodIn_app (goodIn_of _ (by decide +kernel)) ggX6_spoil_X6_sticks
theorem dX6_spoil_0 : decode cX6_spoil 0 = .ok (.aload_n 0, 1) := by decide +kernel
theorem dX6_spoil_1 : decode cX6_spoil 1 = .ok (.iload_n 1, 1) := by decide +kernel
theorem dX6_spoil_2 : decode cX6_spoil 2 = .ok (.invokestatic 85, 3) := by decide +kernel
theorem dX6_spoil_5 : decode cX6_spoil 5 = .ok (.ifCond .ne 7, 3) := by decide +kernel
theorem dX6_spoil_8 : decode cX6_spoil 8 = .ok (.iconst 1, 1) := by decide +kernel
theorem dX6_spoil_9 : decode cX6_spoil 9 = .ok (.goto 28, 3) := by decide +kernel
theorem dX6_spoil_12 : decode cX6_spoil 12 = .ok (.iload_n 2, 1) := by decide +kernel
theorem dX6_spoil_13 : decode cX6_spoil 13 = .ok (.iconst 0, 1) := by decide +kernel
theorem dX6_spoil_14 : decode cX6_spoil 14 = .ok (.ldc 148, 2) := by decide +kernel
theorem dX6_spoil_16 : decode cX6_spoil 16 = .ok (.invokestatic 81, 3) := by decide +kernel
theorem dX6_spoil_19 : decode cX6_spoil 19 = .ok (.ifCond .eq 17, 3) := by decide +kernel
theorem dX6_spoil_22 : decode cX6_spoil 22 = .ok (.iload_n 3, 1) := by decide +kernel
theorem dX6_spoil_23 : decode cX6_spoil 23 = .ok (.iconst 1, 1) := by decide +kernel
theorem dX6_spoil_24 : decode cX6_spoil 24 = .ok (.bipush 20, 2) := by decide +kernel
theorem dX6_spoil_26 : decode cX6_spoil 26 = .ok (.invokestatic 81, 3) := by decide +kernel
theorem dX6_spoil_29 : decode cX6_spoil 29 = .ok (.ifCond .eq 7, 3) := by decide +kernel
theorem dX6_spoil_32 : decode cX6_spoil 32 = .ok (.iconst 0, 1) := by decide +kernel
theorem dX6_spoil_33 : decode cX6_spoil 33 = .ok (.goto 4, 3) := by decide +kernel
theorem dX6_spoil_36 : decode cX6_spoil 36 = .ok (.iconst 2, 1) := by decide +kernel
theorem dX6_spoil_37 : decode cX6_spoil 37 = .ok (.putfield 75, 3) := by decide +kernel
theorem dX6_spoil_40 : decode cX6_spoil 40 = .ok (.iconst 0, 1) := by decide +kernel
theorem dX6_spoil_41 : decode cX6_spoil 41 = .ok (.istore 4, 2) := by decide +kernel
theorem dX6_spoil_43 : decode cX6_spoil 43 = .ok (.iload_n 2, 1) := by decide +kernel
theorem dX6_spoil_44 : decode cX6_spoil 44 = .ok (.istore 5, 2) := by decide +kernel
theorem dX6_spoil_46 : decode cX6_spoil 46 = .ok (.iconst 0, 1) := by decide +kernel
theorem dX6_spoil_47 : decode cX6_spoil 47 = .ok (.istore 6, 2) := by decide +kernel
theorem dX6_spoil_49 : decode cX6_spoil 49 = .ok (.iload 6, 2) := by decide +kernel
theorem dX6_spoil_51 : decode cX6_spoil 51 = .ok (.iload_n 3, 1) := by decide +kernel
theorem dX6_spoil_52 : decode cX6_spoil 52 = .ok (.if_icmp .ge 68, 3) := by decide +kernel
theorem dX6_spoil_55 : decode cX6_spoil 55 = .ok (.aload_n 0, 1) := by decide +kernel
theorem dX6_spoil_56 : decode cX6_spoil 56 = .ok (.getfield 75, 3) := by decide +kernel
theorem dX6_spoil_59 : decode cX6_spoil 59 = .ok (.ifCond .ne 61, 3) := by decide +kernel
theorem dX6_spoil_62 : decode cX6_spoil 62 = .ok (.iload 5, 2) := by decide +kernel
theorem dX6_spoil_64 : decode cX6_spoil 64 = .ok (.invokestatic 149, 3) := by decide +kernel
theorem dX6_spoil_67 : decode cX6_spoil 67 = .ok (.istore 5, 2) := by decide +kernel
theorem dX6_spoil_69 : decode cX6_spoil 69 = .ok (.sipush 128, 3) := by decide +kernel
theorem dX6_spoil_72 : decode cX6_spoil 72 = .ok (.iload_n 1, 1) := by decide +kernel
theorem dX6_spoil_73 : decode cX6_spoil 73 = .ok (.imul, 1) := by decide +kernel
theorem dX6_spoil_74 : decode cX6_spoil 74 = .ok (.iload 5, 2) := by decide +kernel
theorem dX6_spoil_76 : decode cX6_spoil 76 = .ok (.sipush 128, 3) := by decide +kernel
theorem dX6_spoil_79 : decode cX6_spoil 79 = .ok (.irem, 1) := by decide +kernel
theorem dX6_spoil_80 : decode cX6_spoil 80 = .ok (.iadd, 1) := by decide +kernel
theorem dX6_spoil_81 : decode cX6_spoil 81 = .ok (.istore 7, 2) := by decide +kernel
theorem dX6_spoil_83 : decode cX6_spoil 83 = .ok (.iload 5, 2) := by decide +kernel
theorem dX6_spoil_85 : decode cX6_spoil 85 = .ok (.invokestatic 149, 3) := by decide +kernel
theorem dX6_spoil_88 : decode cX6_spoil 88 = .ok (.istore 5, 2) := by decide +kernel
theorem dX6_spoil_90 : decode cX6_spoil 90 = .ok (.aload_n 0, 1) := by decide +kernel
theorem dX6_spoil_91 : decode cX6_spoil 91 = .ok (.getfield 23, 3) := by decide +kernel
theorem dX6_spoil_94 : decode cX6_spoil 94 = .ok (.iload 7, 2) := by decide +kernel
theorem dX6_spoil_96 : decode cX6_spoil 96 = .ok (.baload, 1) := by decide +kernel
theorem dX6_spoil_97 : decode cX6_spoil 97 = .ok (.ifCond .ne 17, 3) := by decide +kernel
theorem dX6_spoil_100 : decode cX6_spoil 100 = .ok (.aload_n 0, 1) := by decide +kernel
theorem dX6_spoil_101 : decode cX6_spoil 101 = .ok (.iload 7, 2) := by decide +kernel
theorem dX6_spoil_103 : decode cX6_spoil 103 = .ok (.iload 5, 2) := by decide +kernel
theorem dX6_spoil_105 : decode cX6_spoil 105 = .ok (.bipush 16, 2) := by decide +kernel
theorem dX6_spoil_107 : decode cX6_spoil 107 = .ok (.irem, 1) := by decide +kernel
theorem dX6_spoil_108 : decode cX6_spoil 108 = .ok (.invokevirtual 138, 3) := by decide +kernel
theorem dX6_spoil_111 : decode cX6_spoil 111 = .ok (.iinc 4 1, 3) := by decide +kernel
theorem dX6_spoil_114 : decode cX6_spoil 114 = .ok (.iinc 6 1, 3) := by decide +kernel
theorem dX6_spoil_117 : decode cX6_spoil 117 = .ok (.goto (-68), 3) := by decide +kernel
theorem dX6_spoil_120 : decode cX6_spoil 120 = .ok (.iload 4, 2) := by decide +kernel
theorem dX6_spoil_122 : decode cX6_spoil 122 = .ok (.ireturn, 1) := by decide +kernel
set_option maxRecDepth 20000 in
theorem ggX6_drift_X6_in : GoodIn wsX6_drift wsX6_in := goodIn_r _ [6] (by decide +kernel) (by decide +kernel)
set_option maxRecDepth 20000 in
theorem gX6_drift_X6_in : GoodIn wsX6_drift (va_wsS RX6 81 yX6_in wsX6_in) := goodIn_app (goodIn_of _ (by decide +kernel)) ggX6_drift_X6_in
theorem dX6_drift_0 : decode cX6_drift 0 = .ok (.aload_n 0, 1) := by decide +kernel
theorem dX6_drift_1 : decode cX6_drift 1 = .ok (.iload_n 1, 1) := by decide +kernel
theorem dX6_drift_2 : decode cX6_drift 2 = .ok (.iconst 0, 1) := by decide +kernel
theorem dX6_drift_3 : decode cX6_drift 3 = .ok (.sipush 1000, 3) := by decide +kernel
theorem dX6_drift_6 : decode cX6_drift 6 = .ok (.invokestatic 81, 3) := by decide +kernel
theorem dX6_drift_9 : decode cX6_drift 9 = .ok (.ifCond .eq 7, 3) := by decide +kernel
theorem dX6_drift_12 : decode cX6_drift 12 = .ok (.iconst 0, 1) := by decide +kernel
theorem dX6_drift_13 : decode cX6_drift 13 = .ok (.goto 4, 3) := by decide +kernel
theorem dX6_drift_16 : decode cX6_drift 16 = .ok (.iconst 1, 1) := by decide +kernel
theorem dX6_drift_17 : decode cX6_drift 17 = .ok (.putfield 75, 3) := by decide +kernel
theorem dX6_drift_20 : decode cX6_drift 20 = .ok (.aload_n 0, 1) := by decide +kernel
theorem dX6_drift_21 : decode cX6_drift 21 = .ok (.getfield 75, 3) := by decide +kernel
theorem dX6_drift_24 : decode cX6_drift 24 = .ok (.ifCond .le 5, 3) := by decide +kernel
theorem dX6_drift_27 : decode cX6_drift 27 = .ok (.iconst 0, 1) := by decide +kernel
theorem dX6_drift_28 : decode cX6_drift 28 = .ok (.ireturn, 1) := by decide +kernel
theorem dX6_drift_29 : decode cX6_drift 29 = .ok (.aload_n 0, 1) := by decide +kernel
theorem dX6_drift_30 : decode cX6_drift 30 = .ok (.getfield 89, 3) := by decide +kernel
theorem dX6_drift_33 : decode cX6_drift 33 = .ok (.istore_n 2, 1) := by decide +kernel
theorem dX6_drift_34 : decode cX6_drift 34 = .ok (.aload_n 0, 1) := by decide +kernel
theorem dX6_drift_35 : decode cX6_drift 35 = .ok (.iload_n 1, 1) := by decide +kernel
theorem dX6_drift_36 : decode cX6_drift 36 = .ok (.putfield 89, 3) := by decide +kernel
theorem dX6_drift_39 : decode cX6_drift 39 = .ok (.iload_n 2, 1) := by decide +kernel
theorem dX6_drift_40 : decode cX6_drift 40 = .ok (.ireturn, 1) := by decide +kernel
set_option maxRecDepth 20000 in
theorem ggX6_endurance_X6_in : GoodIn wsX6_endurance wsX6_in := goodIn_r _ [7] (by decide +kernel) (by decide +kernel)
set_option maxRecDepth 20000 in
theorem gX6_endurance_X6_in : GoodIn wsX6_endurance (va_wsS RX6 81 yX6_in wsX6_in) := goodIn_app (goodIn_of _ (by decide +kernel)) ggX6_endurance_X6_in
theorem dX6_endurance_0 : decode cX6_endurance 0 = .ok (.aload_n 0, 1) := by decide +kernel
theorem dX6_endurance_1 : decode cX6_endurance 1 = .ok (.iload_n 1, 1) := by decide +kernel
theorem dX6_endurance_2 : decode cX6_endurance 2 = .ok (.iconst 1, 1) := by decide +kernel
theorem dX6_endurance_3 : decode cX6_endurance 3 = .ok (.ldc 152, 2) := by decide +kernel
theorem dX6_endurance_5 : decode cX6_endurance 5 = .ok (.invokestatic 81, 3) := by decide +kernel
theorem dX6_endurance_8 : decode cX6_endurance 8 = .ok (.ifCond .eq 7, 3) := by decide +kernel
theorem dX6_endurance_11 : decode cX6_endurance 11 = .ok (.iconst 0, 1) := by decide +kernel
theorem dX6_endurance_12 : decode cX6_endurance 12 = .ok (.goto 4, 3) := by decide +kernel
theorem dX6_endurance_15 : decode cX6_endurance 15 = .ok (.iconst 1, 1) := by decide +kernel
theorem dX6_endurance_16 : decode cX6_endurance 16 = .ok (.putfield 75, 3) := by decide +kernel
theorem dX6_endurance_19 : decode cX6_endurance 19 = .ok (.aload_n 0, 1) := by decide +kernel
theorem dX6_endurance_20 : decode cX6_endurance 20 = .ok (.getfield 75, 3) := by decide +kernel
theorem dX6_endurance_23 : decode cX6_endurance 23 = .ok (.ifCond .le 5, 3) := by decide +kernel
theorem dX6_endurance_26 : decode cX6_endurance 26 = .ok (.iconst 0, 1) := by decide +kernel
theorem dX6_endurance_27 : decode cX6_endurance 27 = .ok (.ireturn, 1) := by decide +kernel
theorem dX6_endurance_28 : decode cX6_endurance 28 = .ok (.aload_n 0, 1) := by decide +kernel
theorem dX6_endurance_29 : decode cX6_endurance 29 = .ok (.getfield 7, 3) := by decide +kernel
theorem dX6_endurance_32 : decode cX6_endurance 32 = .ok (.istore_n 2, 1) := by decide +kernel
theorem dX6_endurance_33 : decode cX6_endurance 33 = .ok (.aload_n 0, 1) := by decide +kernel
theorem dX6_endurance_34 : decode cX6_endurance 34 = .ok (.iload_n 1, 1) := by decide +kernel
theorem dX6_endurance_35 : decode cX6_endurance 35 = .ok (.putfield 7, 3) := by decide +kernel
theorem dX6_endurance_38 : decode cX6_endurance 38 = .ok (.iload_n 2, 1) := by decide +kernel
theorem dX6_endurance_39 : decode cX6_endurance 39 = .ok (.ireturn, 1) := by decide +kernel
set_option maxRecDepth 20000 in
theorem ggX6_pass_X6_in : GoodIn wsX6_pass wsX6_in := goodIn_r _ [7] (by decide +kernel) (by decide +kernel)
set_option maxRecDepth 20000 in
theorem gX6_pass_X6_in : GoodIn wsX6_pass (va_wsS RX6 81 yX6_in wsX6_in) := goodIn_app (goodIn_of _ (by decide +kernel)) ggX6_pass_X6_in
theorem dX6_pass_0 : decode cX6_pass 0 = .ok (.aload_n 0, 1) := by decide +kernel
theorem dX6_pass_1 : decode cX6_pass 1 = .ok (.iload_n 1, 1) := by decide +kernel
theorem dX6_pass_2 : decode cX6_pass 2 = .ok (.iconst 1, 1) := by decide +kernel
theorem dX6_pass_3 : decode cX6_pass 3 = .ok (.sipush 10000, 3) := by decide +kernel
theorem dX6_pass_6 : decode cX6_pass 6 = .ok (.invokestatic 81, 3) := by decide +kernel
theorem dX6_pass_9 : decode cX6_pass 9 = .ok (.ifCond .ne 7, 3) := by decide +kernel
theorem dX6_pass_12 : decode cX6_pass 12 = .ok (.iconst 1, 1) := by decide +kernel
theorem dX6_pass_13 : decode cX6_pass 13 = .ok (.goto 19, 3) := by decide +kernel
theorem dX6_pass_16 : decode cX6_pass 16 = .ok (.aload_n 0, 1) := by decide +kernel
theorem dX6_pass_17 : decode cX6_pass 17 = .ok (.getfield 92, 3) := by decide +kernel
theorem dX6_pass_20 : decode cX6_pass 20 = .ok (.iload_n 1, 1) := by decide +kernel
theorem dX6_pass_21 : decode cX6_pass 21 = .ok (.iadd, 1) := by decide +kernel
theorem dX6_pass_22 : decode cX6_pass 22 = .ok (.ldc 153, 2) := by decide +kernel
theorem dX6_pass_24 : decode cX6_pass 24 = .ok (.if_icmp .le 7, 3) := by decide +kernel
theorem dX6_pass_27 : decode cX6_pass 27 = .ok (.iconst 2, 1) := by decide +kernel
theorem dX6_pass_28 : decode cX6_pass 28 = .ok (.goto 4, 3) := by decide +kernel
theorem dX6_pass_31 : decode cX6_pass 31 = .ok (.iconst 0, 1) := by decide +kernel
theorem dX6_pass_32 : decode cX6_pass 32 = .ok (.putfield 75, 3) := by decide +kernel
theorem dX6_pass_35 : decode cX6_pass 35 = .ok (.aload_n 0, 1) := by decide +kernel
theorem dX6_pass_36 : decode cX6_pass 36 = .ok (.getfield 75, 3) := by decide +kernel
theorem dX6_pass_39 : decode cX6_pass 39 = .ok (.ifCond .le 5, 3) := by decide +kernel
theorem dX6_pass_42 : decode cX6_pass 42 = .ok (.iconst 0, 1) := by decide +kernel
theorem dX6_pass_43 : decode cX6_pass 43 = .ok (.ireturn, 1) := by decide +kernel
theorem dX6_pass_44 : decode cX6_pass 44 = .ok (.aload_n 0, 1) := by decide +kernel
theorem dX6_pass_45 : decode cX6_pass 45 = .ok (.dup, 1) := by decide +kernel
theorem dX6_pass_46 : decode cX6_pass 46 = .ok (.getfield 92, 3) := by decide +kernel
theorem dX6_pass_49 : decode cX6_pass 49 = .ok (.iload_n 1, 1) := by decide +kernel
theorem dX6_pass_50 : decode cX6_pass 50 = .ok (.iadd, 1) := by decide +kernel
theorem dX6_pass_51 : decode cX6_pass 51 = .ok (.putfield 92, 3) := by decide +kernel
theorem dX6_pass_54 : decode cX6_pass 54 = .ok (.aload_n 0, 1) := by decide +kernel
theorem dX6_pass_55 : decode cX6_pass 55 = .ok (.getfield 92, 3) := by decide +kernel
theorem dX6_pass_58 : decode cX6_pass 58 = .ok (.ireturn, 1) := by decide +kernel
set_option maxRecDepth 20000 in
theorem ggX6_converter_X6_isTile : GoodIn wsX6_converter wsX6_isTile := goodIn_r _ [7, 8, 9, 6, 10] (by decide +kernel) (by decide +kernel)
set_option maxRecDepth 20000 in
theorem gX6_converter_X6_isTile : GoodIn wsX6_converter (va_wsS RX6 85 yX6_isTile wsX6_isTile) := goodIn_app (goodIn_of _ (by decide +kernel)) ggX6_converter_X6_isTile
set_option maxRecDepth 20000 in
theorem ggX6_converter_X6_in : GoodIn wsX6_converter wsX6_in := goodIn_r _ [10] (by decide +kernel) (by decide +kernel)
set_option maxRecDepth 20000 in
theorem gX6_converter_X6_in : GoodIn wsX6_converter (va_wsS RX6 81 yX6_in wsX6_in) := goodIn_app (goodIn_of _ (by decide +kernel)) ggX6_converter_X6_in
theorem dX6_converter_0 : decode cX6_converter 0 = .ok (.aload_n 0, 1) := by decide +kernel
theorem dX6_converter_1 : decode cX6_converter 1 = .ok (.iload_n 1, 1) := by decide +kernel
theorem dX6_converter_2 : decode cX6_converter 2 = .ok (.invokestatic 85, 3) := by decide +kernel
theorem dX6_converter_5 : decode cX6_converter 5 = .ok (.ifCond .ne 7, 3) := by decide +kernel
theorem dX6_converter_8 : decode cX6_converter 8 = .ok (.iconst 1, 1) := by decide +kernel
theorem dX6_converter_9 : decode cX6_converter 9 = .ok (.goto 28, 3) := by decide +kernel
theorem dX6_converter_12 : decode cX6_converter 12 = .ok (.iload_n 2, 1) := by decide +kernel
theorem dX6_converter_13 : decode cX6_converter 13 = .ok (.iconst 1, 1) := by decide +kernel
theorem dX6_converter_14 : decode cX6_converter 14 = .ok (.bipush 16, 2) := by decide +kernel
theorem dX6_converter_16 : decode cX6_converter 16 = .ok (.invokestatic 81, 3) := by decide +kernel
theorem dX6_converter_19 : decode cX6_converter 19 = .ok (.ifCond .eq 17, 3) := by decide +kernel
theorem dX6_converter_22 : decode cX6_converter 22 = .ok (.iload_n 3, 1) := by decide +kernel
theorem dX6_converter_23 : decode cX6_converter 23 = .ok (.iconst 1, 1) := by decide +kernel
theorem dX6_converter_24 : decode cX6_converter 24 = .ok (.bipush 127, 2) := by decide +kernel
theorem dX6_converter_26 : decode cX6_converter 26 = .ok (.invokestatic 81, 3) := by decide +kernel
theorem dX6_converter_29 : decode cX6_converter 29 = .ok (.ifCond .eq 7, 3) := by decide +kernel
theorem dX6_converter_32 : decode cX6_converter 32 = .ok (.iconst 0, 1) := by decide +kernel
theorem dX6_converter_33 : decode cX6_converter 33 = .ok (.goto 4, 3) := by decide +kernel
theorem dX6_converter_36 : decode cX6_converter 36 = .ok (.iconst 2, 1) := by decide +kernel
theorem dX6_converter_37 : decode cX6_converter 37 = .ok (.putfield 75, 3) := by decide +kernel
theorem dX6_converter_40 : decode cX6_converter 40 = .ok (.aload_n 0, 1) := by decide +kernel
theorem dX6_converter_41 : decode cX6_converter 41 = .ok (.getfield 75, 3) := by decide +kernel
theorem dX6_converter_44 : decode cX6_converter 44 = .ok (.ifCond .le 5, 3) := by decide +kernel
theorem dX6_converter_47 : decode cX6_converter 47 = .ok (.iconst 0, 1) := by decide +kernel
theorem dX6_converter_48 : decode cX6_converter 48 = .ok (.ireturn, 1) := by decide +kernel
theorem dX6_converter_49 : decode cX6_converter 49 = .ok (.sipush 1000, 3) := by decide +kernel
theorem dX6_converter_52 : decode cX6_converter 52 = .ok (.aload_n 0, 1) := by decide +kernel
theorem dX6_converter_53 : decode cX6_converter 53 = .ok (.getfield 30, 3) := by decide +kernel
theorem dX6_converter_56 : decode cX6_converter 56 = .ok (.iload_n 1, 1) := by decide +kernel
theorem dX6_converter_57 : decode cX6_converter 57 = .ok (.iaload, 1) := by decide +kernel
theorem dX6_converter_58 : decode cX6_converter 58 = .ok (.imul, 1) := by decide +kernel
theorem dX6_converter_59 : decode cX6_converter 59 = .ok (.aload_n 0, 1) := by decide +kernel
theorem dX6_converter_60 : decode cX6_converter 60 = .ok (.getfield 33, 3) := by decide +kernel
theorem dX6_converter_63 : decode cX6_converter 63 = .ok (.iload_n 1, 1) := by decide +kernel
theorem dX6_converter_64 : decode cX6_converter 64 = .ok (.iaload, 1) := by decide +kernel
theorem dX6_converter_65 : decode cX6_converter 65 = .ok (.iadd, 1) := by decide +kernel
theorem dX6_converter_66 : decode cX6_converter 66 = .ok (.istore 4, 2) := by decide +kernel
theorem dX6_converter_68 : decode cX6_converter 68 = .ok (.aload_n 0, 1) := by decide +kernel
theorem dX6_converter_69 : decode cX6_converter 69 = .ok (.getfield 30, 3) := by decide +kernel
theorem dX6_converter_72 : decode cX6_converter 72 = .ok (.iload_n 1, 1) := by decide +kernel
theorem dX6_converter_73 : decode cX6_converter 73 = .ok (.iload_n 2, 1) := by decide +kernel
theorem dX6_converter_74 : decode cX6_converter 74 = .ok (.iastore, 1) := by decide +kernel
theorem dX6_converter_75 : decode cX6_converter 75 = .ok (.aload_n 0, 1) := by decide +kernel
theorem dX6_converter_76 : decode cX6_converter 76 = .ok (.getfield 33, 3) := by decide +kernel
theorem dX6_converter_79 : decode cX6_converter 79 = .ok (.iload_n 1, 1) := by decide +kernel
theorem dX6_converter_80 : decode cX6_converter 80 = .ok (.iload_n 3, 1) := by decide +kernel
theorem dX6_converter_81 : decode cX6_converter 81 = .ok (.iastore, 1) := by decide +kernel
theorem dX6_converter_82 : decode cX6_converter 82 = .ok (.iload 4, 2) := by decide +kernel
theorem dX6_converter_84 : decode cX6_converter 84 = .ok (.ireturn, 1) := by decide +kernel
set_option maxRecDepth 20000 in
theorem ggX6_offset_X6_isTile : GoodIn wsX6_offset wsX6_isTile := goodIn_r _ [6, 7, 8, 5, 9] (by decide +kernel) (by decide +kernel)
set_option maxRecDepth 20000 in
theorem gX6_offset_X6_isTile : GoodIn wsX6_offset (va_wsS RX6 85 yX6_isTile wsX6_isTile) := goodIn_app (goodIn_of _ (by decide +kernel)) ggX6_offset_X6_isTile
set_option maxRecDepth 20000 in
theorem ggX6_offset_X6_in : GoodIn wsX6_offset wsX6_in := goodIn_r _ [9] (by decide +kernel) (by decide +kernel)
set_option maxRecDepth 20000 in
theorem gX6_offset_X6_in : GoodIn wsX6_offset (va_wsS RX6 81 yX6_in wsX6_in) := goodIn_app (goodIn_of _ (by decide +kernel)) ggX6_offset_X6_in
theorem dX6_offset_0 : decode cX6_offset 0 = .ok (.aload_n 0, 1) := by decide +kernel
theorem dX6_offset_1 : decode cX6_offset 1 = .ok (.iload_n 1, 1) := by decide +kernel
theorem dX6_offset_2 : decode cX6_offset 2 = .ok (.invokestatic 85, 3) := by decide +kernel
theorem dX6_offset_5 : decode cX6_offset 5 = .ok (.ifCond .eq 13, 3) := by decide +kernel
theorem dX6_offset_8 : decode cX6_offset 8 = .ok (.iload_n 2, 1) := by decide +kernel
theorem dX6_offset_9 : decode cX6_offset 9 = .ok (.iconst 0, 1) := by decide +kernel
theorem dX6_offset_10 : decode cX6_offset 10 = .ok (.bipush 15, 2) := by decide +kernel
theorem dX6_offset_12 : decode cX6_offset 12 = .ok (.invokestatic 81, 3) := by decide +kernel
theorem dX6_offset_15 : decode cX6_offset 15 = .ok (.ifCond .ne 7, 3) := by decide +kernel
theorem dX6_offset_18 : decode cX6_offset 18 = .ok (.iconst 1, 1) := by decide +kernel
theorem dX6_offset_19 : decode cX6_offset 19 = .ok (.goto 18, 3) := by decide +kernel
theorem dX6_offset_22 : decode cX6_offset 22 = .ok (.iload_n 3, 1) := by decide +kernel
theorem dX6_offset_23 : decode cX6_offset 23 = .ok (.bipush (-3), 2) := by decide +kernel
theorem dX6_offset_25 : decode cX6_offset 25 = .ok (.iconst 3, 1) := by decide +kernel
theorem dX6_offset_26 : decode cX6_offset 26 = .ok (.invokestatic 81, 3) := by decide +kernel
theorem dX6_offset_29 : decode cX6_offset 29 = .ok (.ifCond .eq 7, 3) := by decide +kernel
theorem dX6_offset_32 : decode cX6_offset 32 = .ok (.iconst 0, 1) := by decide +kernel
theorem dX6_offset_33 : decode cX6_offset 33 = .ok (.goto 4, 3) := by decide +kernel
theorem dX6_offset_36 : decode cX6_offset 36 = .ok (.iconst 2, 1) := by decide +kernel
theorem dX6_offset_37 : decode cX6_offset 37 = .ok (.putfield 75, 3) := by decide +kernel
theorem dX6_offset_40 : decode cX6_offset 40 = .ok (.aload_n 0, 1) := by decide +kernel
theorem dX6_offset_41 : decode cX6_offset 41 = .ok (.getfield 75, 3) := by decide +kernel
theorem dX6_offset_44 : decode cX6_offset 44 = .ok (.ifCond .le 5, 3) := by decide +kernel
theorem dX6_offset_47 : decode cX6_offset 47 = .ok (.iconst 0, 1) := by decide +kernel
theorem dX6_offset_48 : decode cX6_offset 48 = .ok (.ireturn, 1) := by decide +kernel
theorem dX6_offset_49 : decode cX6_offset 49 = .ok (.aload_n 0, 1) := by decide +kernel
theorem dX6_offset_50 : decode cX6_offset 50 = .ok (.getfield 36, 3) := by decide +kernel
theorem dX6_offset_53 : decode cX6_offset 53 = .ok (.bipush 16, 2) := by decide +kernel
theorem dX6_offset_55 : decode cX6_offset 55 = .ok (.iload_n 1, 1) := by decide +kernel
theorem dX6_offset_56 : decode cX6_offset 56 = .ok (.imul, 1) := by decide +kernel
theorem dX6_offset_57 : decode cX6_offset 57 = .ok (.iload_n 2, 1) := by decide +kernel
theorem dX6_offset_58 : decode cX6_offset 58 = .ok (.iadd, 1) := by decide +kernel
theorem dX6_offset_59 : decode cX6_offset 59 = .ok (.iaload, 1) := by decide +kernel
theorem dX6_offset_60 : decode cX6_offset 60 = .ok (.istore 4, 2) := by decide +kernel
theorem dX6_offset_62 : decode cX6_offset 62 = .ok (.aload_n 0, 1) := by decide +kernel
theorem dX6_offset_63 : decode cX6_offset 63 = .ok (.getfield 36, 3) := by decide +kernel
theorem dX6_offset_66 : decode cX6_offset 66 = .ok (.bipush 16, 2) := by decide +kernel
theorem dX6_offset_68 : decode cX6_offset 68 = .ok (.iload_n 1, 1) := by decide +kernel
theorem dX6_offset_69 : decode cX6_offset 69 = .ok (.imul, 1) := by decide +kernel
theorem dX6_offset_70 : decode cX6_offset 70 = .ok (.iload_n 2, 1) := by decide +kernel
theorem dX6_offset_71 : decode cX6_offset 71 = .ok (.iadd, 1) := by decide +kernel
theorem dX6_offset_72 : decode cX6_offset 72 = .ok (.iload_n 3, 1) := by decide +kernel
theorem dX6_offset_73 : decode cX6_offset 73 = .ok (.iastore, 1) := by decide +kernel
theorem dX6_offset_74 : decode cX6_offset 74 = .ok (.iload 4, 2) := by decide +kernel
theorem dX6_offset_76 : decode cX6_offset 76 = .ok (.ireturn, 1) := by decide +kernel
set_option maxRecDepth 20000 in
theorem ggX6_calibrate_X6_isTile : GoodIn wsX6_calibrate wsX6_isTile := goodIn_r _ [6, 7, 8, 5, 9] (by decide +kernel) (by decide +kernel)
set_option maxRecDepth 20000 in
theorem gX6_calibrate_X6_isTile : GoodIn wsX6_calibrate (va_wsS RX6 85 yX6_isTile wsX6_isTile) := goodIn_app (goodIn_of _ (by decide +kernel)) ggX6_calibrate_X6_isTile
theorem dX6_calibrate_0 : decode cX6_calibrate 0 = .ok (.aload_n 0, 1) := by decide +kernel
theorem dX6_calibrate_1 : decode cX6_calibrate 1 = .ok (.iload_n 1, 1) := by decide +kernel
theorem dX6_calibrate_2 : decode cX6_calibrate 2 = .ok (.invokestatic 85, 3) := by decide +kernel
theorem dX6_calibrate_5 : decode cX6_calibrate 5 = .ok (.ifCond .eq 7, 3) := by decide +kernel
theorem dX6_calibrate_8 : decode cX6_calibrate 8 = .ok (.iconst 0, 1) := by decide +kernel
theorem dX6_calibrate_9 : decode cX6_calibrate 9 = .ok (.goto 4, 3) := by decide +kernel
theorem dX6_calibrate_12 : decode cX6_calibrate 12 = .ok (.iconst 1, 1) := by decide +kernel
theorem dX6_calibrate_13 : decode cX6_calibrate 13 = .ok (.putfield 75, 3) := by decide +kernel
theorem dX6_calibrate_16 : decode cX6_calibrate 16 = .ok (.aload_n 0, 1) := by decide +kernel
theorem dX6_calibrate_17 : decode cX6_calibrate 17 = .ok (.getfield 75, 3) := by decide +kernel
theorem dX6_calibrate_20 : decode cX6_calibrate 20 = .ok (.ifCond .le 5, 3) := by decide +kernel
theorem dX6_calibrate_23 : decode cX6_calibrate 23 = .ok (.iconst 0, 1) := by decide +kernel
theorem dX6_calibrate_24 : decode cX6_calibrate 24 = .ok (.ireturn, 1) := by decide +kernel
theorem dX6_calibrate_25 : decode cX6_calibrate 25 = .ok (.aload_n 0, 1) := by decide +kernel
theorem dX6_calibrate_26 : decode cX6_calibrate 26 = .ok (.getfield 39, 3) := by decide +kernel
theorem dX6_calibrate_29 : decode cX6_calibrate 29 = .ok (.iload_n 1, 1) := by decide +kernel
theorem dX6_calibrate_30 : decode cX6_calibrate 30 = .ok (.baload, 1) := by decide +kernel
theorem dX6_calibrate_31 : decode cX6_calibrate 31 = .ok (.istore_n 3, 1) := by decide +kernel
theorem dX6_calibrate_32 : decode cX6_calibrate 32 = .ok (.aload_n 0, 1) := by decide +kernel
theorem dX6_calibrate_33 : decode cX6_calibrate 33 = .ok (.getfield 39, 3) := by decide +kernel
theorem dX6_calibrate_36 : decode cX6_calibrate 36 = .ok (.iload_n 1, 1) := by decide +kernel
theorem dX6_calibrate_37 : decode cX6_calibrate 37 = .ok (.iload_n 2, 1) := by decide +kernel
theorem dX6_calibrate_38 : decode cX6_calibrate 38 = .ok (.bastore, 1) := by decide +kernel
theorem dX6_calibrate_39 : decode cX6_calibrate 39 = .ok (.iload_n 3, 1) := by decide +kernel
theorem dX6_calibrate_40 : decode cX6_calibrate 40 = .ok (.ireturn, 1) := by decide +kernel
set_option maxRecDepth 20000 in
theorem ggX6_converters_X6_isTile : GoodIn wsX6_converters wsX6_isTile := goodIn_r _ [6, 7, 8, 5, 9] (by decide +kernel) (by decide +kernel)
set_option maxRecDepth 20000 in
theorem gX6_converters_X6_isTile : GoodIn wsX6_converters (va_wsS RX6 85 yX6_isTile wsX6_isTile) := goodIn_app (goodIn_of _ (by decide +kernel)) ggX6_converters_X6_isTile
theorem dX6_converters_0 : decode cX6_converters 0 = .ok (.aload_n 0, 1) := by decide +kernel
theorem dX6_converters_1 : decode cX6_converters 1 = .ok (.iload_n 1, 1) := by decide +kernel
theorem dX6_converters_2 : decode cX6_converters 2 = .ok (.invokestatic 85, 3) := by decide +kernel
theorem dX6_converters_5 : decode cX6_converters 5 = .ok (.ifCond .ne 7, 3) := by decide +kernel
theorem dX6_converters_8 : decode cX6_converters 8 = .ok (.iconst 1, 1) := by decide +kernel
theorem dX6_converters_9 : decode cX6_converters 9 = .ok (.goto 35, 3) := by decide +kernel
theorem dX6_converters_12 : decode cX6_converters 12 = .ok (.iload_n 2, 1) := by decide +kernel
theorem dX6_converters_13 : decode cX6_converters 13 = .ok (.iconst 1, 1) := by decide +kernel
theorem dX6_converters_14 : decode cX6_converters 14 = .ok (.if_icmp .eq 25, 3) := by decide +kernel
theorem dX6_converters_17 : decode cX6_converters 17 = .ok (.iload_n 2, 1) := by decide +kernel
theorem dX6_converters_18 : decode cX6_converters 18 = .ok (.iconst 2, 1) := by decide +kernel
theorem dX6_converters_19 : decode cX6_converters 19 = .ok (.if_icmp .eq 20, 3) := by decide +kernel
theorem dX6_converters_22 : decode cX6_converters 22 = .ok (.iload_n 2, 1) := by decide +kernel
theorem dX6_converters_23 : decode cX6_converters 23 = .ok (.iconst 4, 1) := by decide +kernel
theorem dX6_converters_24 : decode cX6_converters 24 = .ok (.if_icmp .eq 15, 3) := by decide +kernel
theorem dX6_converters_27 : decode cX6_converters 27 = .ok (.iload_n 2, 1) := by decide +kernel
theorem dX6_converters_28 : decode cX6_converters 28 = .ok (.bipush 8, 2) := by decide +kernel
theorem dX6_converters_30 : decode cX6_converters 30 = .ok (.if_icmp .eq 9, 3) := by decide +kernel
theorem dX6_converters_33 : decode cX6_converters 33 = .ok (.iload_n 2, 1) := by decide +kernel
theorem dX6_converters_34 : decode cX6_converters 34 = .ok (.bipush 16, 2) := by decide +kernel
theorem dX6_converters_36 : decode cX6_converters 36 = .ok (.if_icmp .ne 7, 3) := by decide +kernel
theorem dX6_converters_39 : decode cX6_converters 39 = .ok (.iconst 0, 1) := by decide +kernel
theorem dX6_converters_40 : decode cX6_converters 40 = .ok (.goto 4, 3) := by decide +kernel
theorem dX6_converters_43 : decode cX6_converters 43 = .ok (.iconst 2, 1) := by decide +kernel
theorem dX6_converters_44 : decode cX6_converters 44 = .ok (.putfield 75, 3) := by decide +kernel
theorem dX6_converters_47 : decode cX6_converters 47 = .ok (.aload_n 0, 1) := by decide +kernel
theorem dX6_converters_48 : decode cX6_converters 48 = .ok (.getfield 75, 3) := by decide +kernel
theorem dX6_converters_51 : decode cX6_converters 51 = .ok (.ifCond .le 5, 3) := by decide +kernel
theorem dX6_converters_54 : decode cX6_converters 54 = .ok (.iconst 0, 1) := by decide +kernel
theorem dX6_converters_55 : decode cX6_converters 55 = .ok (.ireturn, 1) := by decide +kernel
theorem dX6_converters_56 : decode cX6_converters 56 = .ok (.aload_n 0, 1) := by decide +kernel
theorem dX6_converters_57 : decode cX6_converters 57 = .ok (.getfield 42, 3) := by decide +kernel
theorem dX6_converters_60 : decode cX6_converters 60 = .ok (.iload_n 1, 1) := by decide +kernel
theorem dX6_converters_61 : decode cX6_converters 61 = .ok (.iaload, 1) := by decide +kernel
theorem dX6_converters_62 : decode cX6_converters 62 = .ok (.istore_n 3, 1) := by decide +kernel
theorem dX6_converters_63 : decode cX6_converters 63 = .ok (.aload_n 0, 1) := by decide +kernel
theorem dX6_converters_64 : decode cX6_converters 64 = .ok (.getfield 42, 3) := by decide +kernel
theorem dX6_converters_67 : decode cX6_converters 67 = .ok (.iload_n 1, 1) := by decide +kernel
theorem dX6_converters_68 : decode cX6_converters 68 = .ok (.iload_n 2, 1) := by decide +kernel
theorem dX6_converters_69 : decode cX6_converters 69 = .ok (.iastore, 1) := by decide +kernel
theorem dX6_converters_70 : decode cX6_converters 70 = .ok (.iload_n 3, 1) := by decide +kernel
theorem dX6_converters_71 : decode cX6_converters 71 = .ok (.ireturn, 1) := by decide +kernel
set_option maxRecDepth 20000 in
theorem ggX6_cell_X6_isCell : GoodIn wsX6_cell wsX6_isCell := goodIn_r _ [9, 10, 11, 8, 12, 13, 14, 15] (by decide +kernel) (by decide +kernel)
set_option maxRecDepth 20000 in
theorem gX6_cell_X6_isCell : GoodIn wsX6_cell (va_wsS RX6 135 yX6_isCell wsX6_isCell) := goodIn_app (goodIn_of _ (by decide +kernel)) ggX6_cell_X6_isCell
set_option maxRecDepth 20000 in
theorem ggX6_cell_X6_in : GoodIn wsX6_cell wsX6_in := goodIn_r _ [15] (by decide +kernel) (by decide +kernel)
set_option maxRecDepth 20000 in
theorem gX6_cell_X6_in : GoodIn wsX6_cell (va_wsS RX6 81 yX6_in wsX6_in) := goodIn_app (goodIn_of _ (by decide +kernel)) ggX6_cell_X6_in
set_option maxRecDepth 20000 in
theorem ggX6_cell_X6_cellAt : GoodIn wsX6_cell wsX6_cellAt := goodIn_r _ [18] (by decide +kernel) (by decide +kernel)
set_option maxRecDepth 20000 in
theorem gX6_cell_X6_cellAt : GoodIn wsX6_cell (va_wsS RX6 106 yX6_cellAt wsX6_cellAt) := goodIn_app (goodIn_of _ (by decide +kernel)) ggX6_cell_X6_cellAt
set_option maxRecDepth 20000 in
theorem ggX6_cell_X6_conducts : GoodIn wsX6_cell wsX6_conducts := goodIn_r _ [22, 23, 4, 2, 24, 25, 26, 27, 28, 29, 30, 31, 32, 33, 34, 35, 36, 37, 38, 39, 40, 41, 42, 43, 44, 45, 46, 47, 48, 49, 50] (by decide +kernel) (by decide +kernel)
set_option maxRecDepth 20000 in
theorem gX6_cell_X6_conducts : GoodIn wsX6_cell (wsV RX6 95 RX6 yX6_conducts wsX6_conducts) := goodIn_app (goodIn_of _ (by decide +kernel)) ggX6_cell_X6_conducts
theorem dX6_cell_0 : decode cX6_cell 0 = .ok (.aload_n 0, 1) := by decide +kernel
theorem dX6_cell_1 : decode cX6_cell 1 = .ok (.iload_n 1, 1) := by decide +kernel
theorem dX6_cell_2 : decode cX6_cell 2 = .ok (.iload_n 2, 1) := by decide +kernel
theorem dX6_cell_3 : decode cX6_cell 3 = .ok (.iload_n 3, 1) := by decide +kernel
theorem dX6_cell_4 : decode cX6_cell 4 = .ok (.invokestatic 135, 3) := by decide +kernel
theorem dX6_cell_7 : decode cX6_cell 7 = .ok (.ifCond .eq 17, 3) := by decide +kernel
theorem dX6_cell_10 : decode cX6_cell 10 = .ok (.iload 4, 2) := by decide +kernel
theorem dX6_cell_12 : decode cX6_cell 12 = .ok (.iconst 0, 1) := by decide +kernel
theorem dX6_cell_13 : decode cX6_cell 13 = .ok (.iconst 4, 1) := by decide +kernel
theorem dX6_cell_14 : decode cX6_cell 14 = .ok (.invokestatic 81, 3) := by decide +kernel
theorem dX6_cell_17 : decode cX6_cell 17 = .ok (.ifCond .eq 7, 3) := by decide +kernel
theorem dX6_cell_20 : decode cX6_cell 20 = .ok (.iconst 0, 1) := by decide +kernel
theorem dX6_cell_21 : decode cX6_cell 21 = .ok (.goto 4, 3) := by decide +kernel
theorem dX6_cell_24 : decode cX6_cell 24 = .ok (.iconst 1, 1) := by decide +kernel
theorem dX6_cell_25 : decode cX6_cell 25 = .ok (.putfield 75, 3) := by decide +kernel
theorem dX6_cell_28 : decode cX6_cell 28 = .ok (.aload_n 0, 1) := by decide +kernel
theorem dX6_cell_29 : decode cX6_cell 29 = .ok (.getfield 75, 3) := by decide +kernel
theorem dX6_cell_32 : decode cX6_cell 32 = .ok (.ifCond .le 5, 3) := by decide +kernel
theorem dX6_cell_35 : decode cX6_cell 35 = .ok (.iconst 0, 1) := by decide +kernel
theorem dX6_cell_36 : decode cX6_cell 36 = .ok (.ireturn, 1) := by decide +kernel
theorem dX6_cell_37 : decode cX6_cell 37 = .ok (.iload_n 1, 1) := by decide +kernel
theorem dX6_cell_38 : decode cX6_cell 38 = .ok (.iload_n 2, 1) := by decide +kernel
theorem dX6_cell_39 : decode cX6_cell 39 = .ok (.iload_n 3, 1) := by decide +kernel
theorem dX6_cell_40 : decode cX6_cell 40 = .ok (.invokestatic 106, 3) := by decide +kernel
theorem dX6_cell_43 : decode cX6_cell 43 = .ok (.istore 5, 2) := by decide +kernel
theorem dX6_cell_45 : decode cX6_cell 45 = .ok (.iload 4, 2) := by decide +kernel
theorem dX6_cell_47 : decode cX6_cell 47 = .ok (.iconst 3, 1) := by decide +kernel
theorem dX6_cell_48 : decode cX6_cell 48 = .ok (.if_icmp .ge 41, 3) := by decide +kernel
theorem dX6_cell_51 : decode cX6_cell 51 = .ok (.iload 4, 2) := by decide +kernel
theorem dX6_cell_53 : decode cX6_cell 53 = .ok (.ifCond .ne 13, 3) := by decide +kernel
theorem dX6_cell_56 : decode cX6_cell 56 = .ok (.aload_n 0, 1) := by decide +kernel
theorem dX6_cell_57 : decode cX6_cell 57 = .ok (.getfield 13, 3) := by decide +kernel
theorem dX6_cell_60 : decode cX6_cell 60 = .ok (.iload 5, 2) := by decide +kernel
theorem dX6_cell_62 : decode cX6_cell 62 = .ok (.iaload, 1) := by decide +kernel
theorem dX6_cell_63 : decode cX6_cell 63 = .ok (.goto 25, 3) := by decide +kernel
theorem dX6_cell_66 : decode cX6_cell 66 = .ok (.iload 4, 2) := by decide +kernel
theorem dX6_cell_68 : decode cX6_cell 68 = .ok (.iconst 1, 1) := by decide +kernel
theorem dX6_cell_69 : decode cX6_cell 69 = .ok (.if_icmp .ne 12, 3) := by decide +kernel
theorem dX6_cell_72 : decode cX6_cell 72 = .ok (.aload_n 0, 1) := by decide +kernel
theorem dX6_cell_73 : decode cX6_cell 73 = .ok (.iload 5, 2) := by decide +kernel
theorem dX6_cell_75 : decode cX6_cell 75 = .ok (.invokevirtual 95, 3) := by decide +kernel
theorem dX6_cell_78 : decode cX6_cell 78 = .ok (.goto 10, 3) := by decide +kernel
theorem dX6_cell_81 : decode cX6_cell 81 = .ok (.aload_n 0, 1) := by decide +kernel
theorem dX6_cell_82 : decode cX6_cell 82 = .ok (.getfield 17, 3) := by decide +kernel
theorem dX6_cell_85 : decode cX6_cell 85 = .ok (.iload 5, 2) := by decide +kernel
theorem dX6_cell_87 : decode cX6_cell 87 = .ok (.iaload, 1) := by decide +kernel
theorem dX6_cell_88 : decode cX6_cell 88 = .ok (.ireturn, 1) := by decide +kernel
theorem dX6_cell_89 : decode cX6_cell 89 = .ok (.iload 4, 2) := by decide +kernel
theorem dX6_cell_91 : decode cX6_cell 91 = .ok (.iconst 3, 1) := by decide +kernel
theorem dX6_cell_92 : decode cX6_cell 92 = .ok (.if_icmp .ne 16, 3) := by decide +kernel
theorem dX6_cell_95 : decode cX6_cell 95 = .ok (.aload_n 0, 1) := by decide +kernel
theorem dX6_cell_96 : decode cX6_cell 96 = .ok (.getfield 23, 3) := by decide +kernel
theorem dX6_cell_99 : decode cX6_cell 99 = .ok (.iload 5, 2) := by decide +kernel
theorem dX6_cell_101 : decode cX6_cell 101 = .ok (.baload, 1) := by decide +kernel
theorem dX6_cell_102 : decode cX6_cell 102 = .ok (.ifCond .eq 20, 3) := by decide +kernel
theorem dX6_cell_105 : decode cX6_cell 105 = .ok (.goto 13, 3) := by decide +kernel
theorem dX6_cell_108 : decode cX6_cell 108 = .ok (.aload_n 0, 1) := by decide +kernel
theorem dX6_cell_109 : decode cX6_cell 109 = .ok (.getfield 27, 3) := by decide +kernel
theorem dX6_cell_112 : decode cX6_cell 112 = .ok (.iload 5, 2) := by decide +kernel
theorem dX6_cell_114 : decode cX6_cell 114 = .ok (.baload, 1) := by decide +kernel
theorem dX6_cell_115 : decode cX6_cell 115 = .ok (.ifCond .eq 7, 3) := by decide +kernel
theorem dX6_cell_118 : decode cX6_cell 118 = .ok (.iconst 1, 1) := by decide +kernel
theorem dX6_cell_119 : decode cX6_cell 119 = .ok (.goto 4, 3) := by decide +kernel
theorem dX6_cell_122 : decode cX6_cell 122 = .ok (.iconst 0, 1) := by decide +kernel
theorem dX6_cell_123 : decode cX6_cell 123 = .ok (.ireturn, 1) := by decide +kernel
set_option maxRecDepth 20000 in
theorem ggX6_rowOf_X6_isLayer : GoodIn wsX6_rowOf wsX6_isLayer := goodIn_r _ [9, 10, 11, 12, 8, 13, 14, 15, 16, 17, 18, 19, 20, 21, 22, 23, 24, 25, 26, 27, 28, 29, 30, 31, 32, 33, 34, 35, 36, 37, 38] (by decide +kernel) (by decide +kernel)
set_option maxRecDepth 20000 in
theorem gX6_rowOf_X6_isLayer : GoodIn wsX6_rowOf (wsV RX6 99 RX6 yX6_isLayer wsX6_isLayer) := goodIn_app (goodIn_of _ (by decide +kernel)) ggX6_rowOf_X6_isLayer
set_option maxRecDepth 20000 in
theorem ggX6_rowOf_X6_in : GoodIn wsX6_rowOf wsX6_in := goodIn_r _ [13] (by decide +kernel) (by decide +kernel)
set_option maxRecDepth 20000 in
theorem gX6_rowOf_X6_in : GoodIn wsX6_rowOf (va_wsS RX6 81 yX6_in wsX6_in) := goodIn_app (goodIn_of _ (by decide +kernel)) ggX6_rowOf_X6_in
theorem dX6_rowOf_0 : decode cX6_rowOf 0 = .ok (.aload_n 0, 1) := by decide +kernel
theorem dX6_rowOf_1 : decode cX6_rowOf 1 = .ok (.aload_n 0, 1) := by decide +kernel
theorem dX6_rowOf_2 : decode cX6_rowOf 2 = .ok (.iload_n 1, 1) := by decide +kernel
theorem dX6_rowOf_3 : decode cX6_rowOf 3 = .ok (.invokevirtual 99, 3) := by decide +kernel
theorem dX6_rowOf_6 : decode cX6_rowOf 6 = .ok (.ifCond .eq 23, 3) := by decide +kernel
theorem dX6_rowOf_9 : decode cX6_rowOf 9 = .ok (.iload_n 2, 1) := by decide +kernel
theorem dX6_rowOf_10 : decode cX6_rowOf 10 = .ok (.iconst 0, 1) := by decide +kernel
theorem dX6_rowOf_11 : decode cX6_rowOf 11 = .ok (.aload_n 0, 1) := by decide +kernel
theorem dX6_rowOf_12 : decode cX6_rowOf 12 = .ok (.getfield 45, 3) := by decide +kernel
theorem dX6_rowOf_15 : decode cX6_rowOf 15 = .ok (.iload_n 1, 1) := by decide +kernel
theorem dX6_rowOf_16 : decode cX6_rowOf 16 = .ok (.iaload, 1) := by decide +kernel
theorem dX6_rowOf_17 : decode cX6_rowOf 17 = .ok (.iconst 1, 1) := by decide +kernel
theorem dX6_rowOf_18 : decode cX6_rowOf 18 = .ok (.isub, 1) := by decide +kernel
theorem dX6_rowOf_19 : decode cX6_rowOf 19 = .ok (.invokestatic 81, 3) := by decide +kernel
theorem dX6_rowOf_22 : decode cX6_rowOf 22 = .ok (.ifCond .eq 7, 3) := by decide +kernel
theorem dX6_rowOf_25 : decode cX6_rowOf 25 = .ok (.iconst 0, 1) := by decide +kernel
theorem dX6_rowOf_26 : decode cX6_rowOf 26 = .ok (.goto 4, 3) := by decide +kernel
theorem dX6_rowOf_29 : decode cX6_rowOf 29 = .ok (.iconst 1, 1) := by decide +kernel
theorem dX6_rowOf_30 : decode cX6_rowOf 30 = .ok (.putfield 75, 3) := by decide +kernel
theorem dX6_rowOf_33 : decode cX6_rowOf 33 = .ok (.aload_n 0, 1) := by decide +kernel
theorem dX6_rowOf_34 : decode cX6_rowOf 34 = .ok (.getfield 75, 3) := by decide +kernel
theorem dX6_rowOf_37 : decode cX6_rowOf 37 = .ok (.ifCond .le 5, 3) := by decide +kernel
theorem dX6_rowOf_40 : decode cX6_rowOf 40 = .ok (.iconst 0, 1) := by decide +kernel
theorem dX6_rowOf_41 : decode cX6_rowOf 41 = .ok (.ireturn, 1) := by decide +kernel
theorem dX6_rowOf_42 : decode cX6_rowOf 42 = .ok (.aload_n 0, 1) := by decide +kernel
theorem dX6_rowOf_43 : decode cX6_rowOf 43 = .ok (.getfield 60, 3) := by decide +kernel
theorem dX6_rowOf_46 : decode cX6_rowOf 46 = .ok (.iload_n 1, 1) := by decide +kernel
theorem dX6_rowOf_47 : decode cX6_rowOf 47 = .ok (.iaload, 1) := by decide +kernel
theorem dX6_rowOf_48 : decode cX6_rowOf 48 = .ok (.iconst (-1), 1) := by decide +kernel
theorem dX6_rowOf_49 : decode cX6_rowOf 49 = .ok (.if_icmp .ne 7, 3) := by decide +kernel
theorem dX6_rowOf_52 : decode cX6_rowOf 52 = .ok (.iconst (-1), 1) := by decide +kernel
theorem dX6_rowOf_53 : decode cX6_rowOf 53 = .ok (.goto 14, 3) := by decide +kernel
theorem dX6_rowOf_56 : decode cX6_rowOf 56 = .ok (.aload_n 0, 1) := by decide +kernel
theorem dX6_rowOf_57 : decode cX6_rowOf 57 = .ok (.getfield 63, 3) := by decide +kernel
theorem dX6_rowOf_60 : decode cX6_rowOf 60 = .ok (.bipush 8, 2) := by decide +kernel
theorem dX6_rowOf_62 : decode cX6_rowOf 62 = .ok (.iload_n 1, 1) := by decide +kernel
theorem dX6_rowOf_63 : decode cX6_rowOf 63 = .ok (.imul, 1) := by decide +kernel
theorem dX6_rowOf_64 : decode cX6_rowOf 64 = .ok (.iload_n 2, 1) := by decide +kernel
theorem dX6_rowOf_65 : decode cX6_rowOf 65 = .ok (.iadd, 1) := by decide +kernel
theorem dX6_rowOf_66 : decode cX6_rowOf 66 = .ok (.iaload, 1) := by decide +kernel
theorem dX6_rowOf_67 : decode cX6_rowOf 67 = .ok (.ireturn, 1) := by decide +kernel
set_option maxRecDepth 20000 in
theorem ggX6_tileOf_X6_isLayer : GoodIn wsX6_tileOf wsX6_isLayer := goodIn_r _ [7, 8, 9, 10, 6, 11, 12, 13, 14, 15, 16, 17, 18, 19, 20, 21, 22, 23, 24, 25, 26, 27, 28, 29, 30, 31, 32, 33, 34, 35, 36] (by decide +kernel) (by decide +kernel)
set_option maxRecDepth 20000 in
theorem gX6_tileOf_X6_isLayer : GoodIn wsX6_tileOf (wsV RX6 99 RX6 yX6_isLayer wsX6_isLayer) := goodIn_app (goodIn_of _ (by decide +kernel)) ggX6_tileOf_X6_isLayer
theorem dX6_tileOf_0 : decode cX6_tileOf 0 = .ok (.aload_n 0, 1) := by decide +kernel
theorem dX6_tileOf_1 : decode cX6_tileOf 1 = .ok (.aload_n 0, 1) := by decide +kernel
theorem dX6_tileOf_2 : decode cX6_tileOf 2 = .ok (.iload_n 1, 1) := by decide +kernel
theorem dX6_tileOf_3 : decode cX6_tileOf 3 = .ok (.invokevirtual 99, 3) := by decide +kernel
theorem dX6_tileOf_6 : decode cX6_tileOf 6 = .ok (.ifCond .eq 7, 3) := by decide +kernel
theorem dX6_tileOf_9 : decode cX6_tileOf 9 = .ok (.iconst 0, 1) := by decide +kernel
theorem dX6_tileOf_10 : decode cX6_tileOf 10 = .ok (.goto 4, 3) := by decide +kernel
theorem dX6_tileOf_13 : decode cX6_tileOf 13 = .ok (.iconst 1, 1) := by decide +kernel
theorem dX6_tileOf_14 : decode cX6_tileOf 14 = .ok (.putfield 75, 3) := by decide +kernel
theorem dX6_tileOf_17 : decode cX6_tileOf 17 = .ok (.aload_n 0, 1) := by decide +kernel
theorem dX6_tileOf_18 : decode cX6_tileOf 18 = .ok (.getfield 75, 3) := by decide +kernel
theorem dX6_tileOf_21 : decode cX6_tileOf 21 = .ok (.ifCond .le 7, 3) := by decide +kernel
theorem dX6_tileOf_24 : decode cX6_tileOf 24 = .ok (.iconst 0, 1) := by decide +kernel
theorem dX6_tileOf_25 : decode cX6_tileOf 25 = .ok (.goto 9, 3) := by decide +kernel
theorem dX6_tileOf_28 : decode cX6_tileOf 28 = .ok (.aload_n 0, 1) := by decide +kernel
theorem dX6_tileOf_29 : decode cX6_tileOf 29 = .ok (.getfield 60, 3) := by decide +kernel
theorem dX6_tileOf_32 : decode cX6_tileOf 32 = .ok (.iload_n 1, 1) := by decide +kernel
theorem dX6_tileOf_33 : decode cX6_tileOf 33 = .ok (.iaload, 1) := by decide +kernel
theorem dX6_tileOf_34 : decode cX6_tileOf 34 = .ok (.ireturn, 1) := by decide +kernel
set_option maxRecDepth 20000 in
theorem ggX6_misfits_X6_isLayer : GoodIn wsX6_misfits wsX6_isLayer := goodIn_r _ [6, 7, 8, 9, 5, 10, 42, 43, 44, 45, 46, 47, 48, 49, 50, 51, 52, 53, 54, 55, 56, 57, 58, 59, 60, 61, 62, 63, 64, 65, 66] (by decide +kernel) (by decide +kernel)
set_option maxRecDepth 20000 in
theorem gX6_misfits_X6_isLayer : GoodIn wsX6_misfits (wsV RX6 99 RX6 yX6_isLayer wsX6_isLayer) := goodIn_app (goodIn_of _ (by decide +kernel)) ggX6_misfits_X6_isLayer
set_option maxRecDepth 20000 in
theorem ggX6_misfits_X6_isTile : GoodIn wsX6_misfits wsX6_isTile := goodIn_r _ [13, 8, 9, 5, 10] (by decide +kernel) (by decide +kernel)
set_option maxRecDepth 20000 in
theorem gX6_misfits_X6_isTile : GoodIn wsX6_misfits (va_wsS RX6 85 yX6_isTile wsX6_isTile) := goodIn_app (goodIn_of _ (by decide +kernel)) ggX6_misfits_X6_isTile
set_option maxRecDepth 20000 in
theorem ggX6_misfits_X6_finds : GoodIn wsX6_misfits wsX6_finds := goodIn_r _ [17, 18, 19, 20, 21, 22, 23, 5, 24, 25, 26, 27, 28, 29, 30, 31, 32, 33, 34, 35, 36, 37, 38, 39, 40, 41, 42, 43, 44, 45, 46, 47, 48, 49, 50, 51, 52, 53, 54, 55, 56, 57, 58, 59, 60, 61, 62, 63, 64, 65, 66] (by decide +kernel) (by decide +kernel)
set_option maxRecDepth 20000 in
theorem gX6_misfits_X6_finds : GoodIn wsX6_misfits (wsV RX6 126 RX6 yX6_finds wsX6_finds) := goodIn_app (goodIn_of _ (by decide +kernel)) ggX6_misfits_X6_finds
theorem dX6_misfits_0 : decode cX6_misfits 0 = .ok (.aload_n 0, 1) := by decide +kernel
theorem dX6_misfits_1 : decode cX6_misfits 1 = .ok (.aload_n 0, 1) := by decide +kernel
theorem dX6_misfits_2 : decode cX6_misfits 2 = .ok (.iload_n 1, 1) := by decide +kernel
theorem dX6_misfits_3 : decode cX6_misfits 3 = .ok (.invokevirtual 99, 3) := by decide +kernel
theorem dX6_misfits_6 : decode cX6_misfits 6 = .ok (.ifCond .eq 14, 3) := by decide +kernel
theorem dX6_misfits_9 : decode cX6_misfits 9 = .ok (.iload_n 2, 1) := by decide +kernel
theorem dX6_misfits_10 : decode cX6_misfits 10 = .ok (.invokestatic 85, 3) := by decide +kernel
theorem dX6_misfits_13 : decode cX6_misfits 13 = .ok (.ifCond .eq 7, 3) := by decide +kernel
theorem dX6_misfits_16 : decode cX6_misfits 16 = .ok (.iconst 0, 1) := by decide +kernel
theorem dX6_misfits_17 : decode cX6_misfits 17 = .ok (.goto 4, 3) := by decide +kernel
theorem dX6_misfits_20 : decode cX6_misfits 20 = .ok (.iconst 1, 1) := by decide +kernel
theorem dX6_misfits_21 : decode cX6_misfits 21 = .ok (.putfield 75, 3) := by decide +kernel
theorem dX6_misfits_24 : decode cX6_misfits 24 = .ok (.aload_n 0, 1) := by decide +kernel
theorem dX6_misfits_25 : decode cX6_misfits 25 = .ok (.getfield 75, 3) := by decide +kernel
theorem dX6_misfits_28 : decode cX6_misfits 28 = .ok (.ifCond .le 7, 3) := by decide +kernel
theorem dX6_misfits_31 : decode cX6_misfits 31 = .ok (.iconst 0, 1) := by decide +kernel
theorem dX6_misfits_32 : decode cX6_misfits 32 = .ok (.goto 9, 3) := by decide +kernel
theorem dX6_misfits_35 : decode cX6_misfits 35 = .ok (.aload_n 0, 1) := by decide +kernel
theorem dX6_misfits_36 : decode cX6_misfits 36 = .ok (.iload_n 1, 1) := by decide +kernel
theorem dX6_misfits_37 : decode cX6_misfits 37 = .ok (.iload_n 2, 1) := by decide +kernel
theorem dX6_misfits_38 : decode cX6_misfits 38 = .ok (.invokevirtual 126, 3) := by decide +kernel
theorem dX6_misfits_41 : decode cX6_misfits 41 = .ok (.ireturn, 1) := by decide +kernel
set_option maxRecDepth 20000 in
theorem ggX6_misfitsAnew_X6_isLayer : GoodIn wsX6_misfitsAnew wsX6_isLayer := goodIn_r _ [7, 8, 9, 10, 6, 11, 42, 43, 44, 45, 46, 47, 48, 49, 50, 51, 52, 53, 54, 55, 56, 57, 58, 59, 60, 61, 62, 63, 64, 65, 66] (by decide +kernel) (by decide +kernel)
set_option maxRecDepth 20000 in
theorem gX6_misfitsAnew_X6_isLayer : GoodIn wsX6_misfitsAnew (wsV RX6 99 RX6 yX6_isLayer wsX6_isLayer) := goodIn_app (goodIn_of _ (by decide +kernel)) ggX6_misfitsAnew_X6_isLayer
set_option maxRecDepth 20000 in
theorem ggX6_misfitsAnew_X6_isTile : GoodIn wsX6_misfitsAnew wsX6_isTile := goodIn_r _ [14, 9, 10, 6, 11] (by decide +kernel) (by decide +kernel)
set_option maxRecDepth 20000 in
theorem gX6_misfitsAnew_X6_isTile : GoodIn wsX6_misfitsAnew (va_wsS RX6 85 yX6_isTile wsX6_isTile) := goodIn_app (goodIn_of _ (by decide +kernel)) ggX6_misfitsAnew_X6_isTile
set_option maxRecDepth 20000 in
theorem ggX6_misfitsAnew_X6_finds : GoodIn wsX6_misfitsAnew wsX6_finds := goodIn_r _ [18, 1, 19, 20, 21, 22, 23, 6, 24, 25, 26, 27, 28, 29, 30, 31, 32, 33, 34, 35, 36, 37, 38, 39, 40, 41, 42, 43, 44, 45, 46, 47, 48, 49, 50, 51, 52, 53, 54, 55, 56, 57, 58, 59, 60, 61, 62, 63, 64, 65, 66] (by decide +kernel) (by decide +kernel)
set_option maxRecDepth 20000 in
theorem gX6_misfitsAnew_X6_finds : GoodIn wsX6_misfitsAnew (wsV RX6 126 RX6 yX6_finds wsX6_finds) := goodIn_app (goodIn_of _ (by decide +kernel)) ggX6_misfitsAnew_X6_finds
theorem dX6_misfitsAnew_0 : decode cX6_misfitsAnew 0 = .ok (.aload_n 0, 1) := by decide +kernel
theorem dX6_misfitsAnew_1 : decode cX6_misfitsAnew 1 = .ok (.aload_n 0, 1) := by decide +kernel
theorem dX6_misfitsAnew_2 : decode cX6_misfitsAnew 2 = .ok (.iload_n 1, 1) := by decide +kernel
theorem dX6_misfitsAnew_3 : decode cX6_misfitsAnew 3 = .ok (.invokevirtual 99, 3) := by decide +kernel
theorem dX6_misfitsAnew_6 : decode cX6_misfitsAnew 6 = .ok (.ifCond .eq 10, 3) := by decide +kernel
theorem dX6_misfitsAnew_9 : decode cX6_misfitsAnew 9 = .ok (.iload_n 2, 1) := by decide +kernel
theorem dX6_misfitsAnew_10 : decode cX6_misfitsAnew 10 = .ok (.invokestatic 85, 3) := by decide +kernel
theorem dX6_misfitsAnew_13 : decode cX6_misfitsAnew 13 = .ok (.ifCond .ne 7, 3) := by decide +kernel
theorem dX6_misfitsAnew_16 : decode cX6_misfitsAnew 16 = .ok (.iconst 1, 1) := by decide +kernel
theorem dX6_misfitsAnew_17 : decode cX6_misfitsAnew 17 = .ok (.goto 18, 3) := by decide +kernel
theorem dX6_misfitsAnew_20 : decode cX6_misfitsAnew 20 = .ok (.aload_n 0, 1) := by decide +kernel
theorem dX6_misfitsAnew_21 : decode cX6_misfitsAnew 21 = .ok (.getfield 45, 3) := by decide +kernel
theorem dX6_misfitsAnew_24 : decode cX6_misfitsAnew 24 = .ok (.iload_n 1, 1) := by decide +kernel
theorem dX6_misfitsAnew_25 : decode cX6_misfitsAnew 25 = .ok (.iaload, 1) := by decide +kernel
theorem dX6_misfitsAnew_26 : decode cX6_misfitsAnew 26 = .ok (.iconst 4, 1) := by decide +kernel
theorem dX6_misfitsAnew_27 : decode cX6_misfitsAnew 27 = .ok (.if_icmp .le 7, 3) := by decide +kernel
theorem dX6_misfitsAnew_30 : decode cX6_misfitsAnew 30 = .ok (.iconst 2, 1) := by decide +kernel
theorem dX6_misfitsAnew_31 : decode cX6_misfitsAnew 31 = .ok (.goto 4, 3) := by decide +kernel
theorem dX6_misfitsAnew_34 : decode cX6_misfitsAnew 34 = .ok (.iconst 0, 1) := by decide +kernel
theorem dX6_misfitsAnew_35 : decode cX6_misfitsAnew 35 = .ok (.putfield 75, 3) := by decide +kernel
theorem dX6_misfitsAnew_38 : decode cX6_misfitsAnew 38 = .ok (.aload_n 0, 1) := by decide +kernel
theorem dX6_misfitsAnew_39 : decode cX6_misfitsAnew 39 = .ok (.getfield 75, 3) := by decide +kernel
theorem dX6_misfitsAnew_42 : decode cX6_misfitsAnew 42 = .ok (.ifCond .le 7, 3) := by decide +kernel
theorem dX6_misfitsAnew_45 : decode cX6_misfitsAnew 45 = .ok (.iconst 0, 1) := by decide +kernel
theorem dX6_misfitsAnew_46 : decode cX6_misfitsAnew 46 = .ok (.goto 9, 3) := by decide +kernel
theorem dX6_misfitsAnew_49 : decode cX6_misfitsAnew 49 = .ok (.aload_n 0, 1) := by decide +kernel
theorem dX6_misfitsAnew_50 : decode cX6_misfitsAnew 50 = .ok (.iload_n 1, 1) := by decide +kernel
theorem dX6_misfitsAnew_51 : decode cX6_misfitsAnew 51 = .ok (.iload_n 2, 1) := by decide +kernel
theorem dX6_misfitsAnew_52 : decode cX6_misfitsAnew 52 = .ok (.invokevirtual 126, 3) := by decide +kernel
theorem dX6_misfitsAnew_55 : decode cX6_misfitsAnew 55 = .ok (.ireturn, 1) := by decide +kernel
set_option maxRecDepth 20000 in
theorem ggX6_isTrue_X6_isLayer : GoodIn wsX6_isTrue wsX6_isLayer := goodIn_r _ [10, 11, 12, 13, 9, 14, 35, 36, 37, 38, 39, 40, 41, 42, 43, 44, 45, 46, 47, 48, 49, 50, 51, 52, 53, 54, 55, 56, 57, 58, 59] (by decide +kernel) (by decide +kernel)
set_option maxRecDepth 20000 in
theorem gX6_isTrue_X6_isLayer : GoodIn wsX6_isTrue (wsV RX6 99 RX6 yX6_isLayer wsX6_isLayer) := goodIn_app (goodIn_of _ (by decide +kernel)) ggX6_isTrue_X6_isLayer
set_option maxRecDepth 20000 in
theorem ggX6_isTrue_X6_cellAt : GoodIn wsX6_isTrue wsX6_cellAt := goodIn_r _ [17] (by decide +kernel) (by decide +kernel)
set_option maxRecDepth 20000 in
theorem gX6_isTrue_X6_cellAt : GoodIn wsX6_isTrue (va_wsS RX6 106 yX6_cellAt wsX6_cellAt) := goodIn_app (goodIn_of _ (by decide +kernel)) ggX6_isTrue_X6_cellAt
set_option maxRecDepth 20000 in
theorem ggX6_isTrue_X6_conducts : GoodIn wsX6_isTrue wsX6_conducts := goodIn_r _ [21, 22, 23, 24, 25, 26, 35, 36, 37, 38, 39, 40, 41, 42, 43, 44, 45, 46, 47, 48, 49, 50, 51, 52, 53, 54, 55, 56, 57, 58, 59] (by decide +kernel) (by decide +kernel)
set_option maxRecDepth 20000 in
theorem gX6_isTrue_X6_conducts : GoodIn wsX6_isTrue (wsV RX6 95 RX6 yX6_conducts wsX6_conducts) := goodIn_app (goodIn_of _ (by decide +kernel)) ggX6_isTrue_X6_conducts
set_option maxRecDepth 20000 in
theorem ggX6_isTrue_X6_needs : GoodIn wsX6_isTrue wsX6_needs := goodIn_r _ [30, 31, 32, 33, 9, 34, 35, 36, 37, 38, 39, 40, 41, 42, 43, 44, 45, 46, 47, 48, 49, 50, 51, 52, 53, 54, 55, 56, 57, 58, 59] (by decide +kernel) (by decide +kernel)
set_option maxRecDepth 20000 in
theorem gX6_isTrue_X6_needs : GoodIn wsX6_isTrue (wsV RX6 109 RX6 yX6_needs wsX6_needs) := goodIn_app (goodIn_of _ (by decide +kernel)) ggX6_isTrue_X6_needs
theorem dX6_isTrue_0 : decode cX6_isTrue 0 = .ok (.aload_n 0, 1) := by decide +kernel
theorem dX6_isTrue_1 : decode cX6_isTrue 1 = .ok (.aload_n 0, 1) := by decide +kernel
theorem dX6_isTrue_2 : decode cX6_isTrue 2 = .ok (.iload_n 1, 1) := by decide +kernel
theorem dX6_isTrue_3 : decode cX6_isTrue 3 = .ok (.invokevirtual 99, 3) := by decide +kernel
theorem dX6_isTrue_6 : decode cX6_isTrue 6 = .ok (.ifCond .eq 7, 3) := by decide +kernel
theorem dX6_isTrue_9 : decode cX6_isTrue 9 = .ok (.iconst 0, 1) := by decide +kernel
theorem dX6_isTrue_10 : decode cX6_isTrue 10 = .ok (.goto 4, 3) := by decide +kernel
theorem dX6_isTrue_13 : decode cX6_isTrue 13 = .ok (.iconst 1, 1) := by decide +kernel
theorem dX6_isTrue_14 : decode cX6_isTrue 14 = .ok (.putfield 75, 3) := by decide +kernel
theorem dX6_isTrue_17 : decode cX6_isTrue 17 = .ok (.aload_n 0, 1) := by decide +kernel
theorem dX6_isTrue_18 : decode cX6_isTrue 18 = .ok (.getfield 75, 3) := by decide +kernel
theorem dX6_isTrue_21 : decode cX6_isTrue 21 = .ok (.ifCond .ne 17, 3) := by decide +kernel
theorem dX6_isTrue_24 : decode cX6_isTrue 24 = .ok (.aload_n 0, 1) := by decide +kernel
theorem dX6_isTrue_25 : decode cX6_isTrue 25 = .ok (.getfield 60, 3) := by decide +kernel
theorem dX6_isTrue_28 : decode cX6_isTrue 28 = .ok (.iload_n 1, 1) := by decide +kernel
theorem dX6_isTrue_29 : decode cX6_isTrue 29 = .ok (.iaload, 1) := by decide +kernel
theorem dX6_isTrue_30 : decode cX6_isTrue 30 = .ok (.iconst (-1), 1) := by decide +kernel
theorem dX6_isTrue_31 : decode cX6_isTrue 31 = .ok (.if_icmp .eq 7, 3) := by decide +kernel
theorem dX6_isTrue_34 : decode cX6_isTrue 34 = .ok (.iconst 1, 1) := by decide +kernel
theorem dX6_isTrue_35 : decode cX6_isTrue 35 = .ok (.goto 4, 3) := by decide +kernel
theorem dX6_isTrue_38 : decode cX6_isTrue 38 = .ok (.iconst 0, 1) := by decide +kernel
theorem dX6_isTrue_39 : decode cX6_isTrue 39 = .ok (.istore_n 2, 1) := by decide +kernel
theorem dX6_isTrue_40 : decode cX6_isTrue 40 = .ok (.iconst 0, 1) := by decide +kernel
theorem dX6_isTrue_41 : decode cX6_isTrue 41 = .ok (.istore_n 3, 1) := by decide +kernel
theorem dX6_isTrue_42 : decode cX6_isTrue 42 = .ok (.iload_n 2, 1) := by decide +kernel
theorem dX6_isTrue_43 : decode cX6_isTrue 43 = .ok (.ifCond .eq 110, 3) := by decide +kernel
theorem dX6_isTrue_46 : decode cX6_isTrue 46 = .ok (.iload_n 3, 1) := by decide +kernel
theorem dX6_isTrue_47 : decode cX6_isTrue 47 = .ok (.bipush 16, 2) := by decide +kernel
theorem dX6_isTrue_49 : decode cX6_isTrue 49 = .ok (.aload_n 0, 1) := by decide +kernel
theorem dX6_isTrue_50 : decode cX6_isTrue 50 = .ok (.getfield 45, 3) := by decide +kernel
theorem dX6_isTrue_53 : decode cX6_isTrue 53 = .ok (.iload_n 1, 1) := by decide +kernel
theorem dX6_isTrue_54 : decode cX6_isTrue 54 = .ok (.iaload, 1) := by decide +kernel
theorem dX6_isTrue_55 : decode cX6_isTrue 55 = .ok (.imul, 1) := by decide +kernel
theorem dX6_isTrue_56 : decode cX6_isTrue 56 = .ok (.if_icmp .ge 97, 3) := by decide +kernel
theorem dX6_isTrue_59 : decode cX6_isTrue 59 = .ok (.iload_n 3, 1) := by decide +kernel
theorem dX6_isTrue_60 : decode cX6_isTrue 60 = .ok (.bipush 16, 2) := by decide +kernel
theorem dX6_isTrue_62 : decode cX6_isTrue 62 = .ok (.idiv, 1) := by decide +kernel
theorem dX6_isTrue_63 : decode cX6_isTrue 63 = .ok (.istore 4, 2) := by decide +kernel
theorem dX6_isTrue_65 : decode cX6_isTrue 65 = .ok (.iload_n 3, 1) := by decide +kernel
theorem dX6_isTrue_66 : decode cX6_isTrue 66 = .ok (.bipush 16, 2) := by decide +kernel
theorem dX6_isTrue_68 : decode cX6_isTrue 68 = .ok (.irem, 1) := by decide +kernel
theorem dX6_isTrue_69 : decode cX6_isTrue 69 = .ok (.istore 5, 2) := by decide +kernel
theorem dX6_isTrue_71 : decode cX6_isTrue 71 = .ok (.iload 5, 2) := by decide +kernel
theorem dX6_isTrue_73 : decode cX6_isTrue 73 = .ok (.iconst 4, 1) := by decide +kernel
theorem dX6_isTrue_74 : decode cX6_isTrue 74 = .ok (.aload_n 0, 1) := by decide +kernel
theorem dX6_isTrue_75 : decode cX6_isTrue 75 = .ok (.getfield 48, 3) := by decide +kernel
theorem dX6_isTrue_78 : decode cX6_isTrue 78 = .ok (.iload_n 1, 1) := by decide +kernel
theorem dX6_isTrue_79 : decode cX6_isTrue 79 = .ok (.iaload, 1) := by decide +kernel
theorem dX6_isTrue_80 : decode cX6_isTrue 80 = .ok (.imul, 1) := by decide +kernel
theorem dX6_isTrue_81 : decode cX6_isTrue 81 = .ok (.if_icmp .ge 7, 3) := by decide +kernel
theorem dX6_isTrue_84 : decode cX6_isTrue 84 = .ok (.iconst 1, 1) := by decide +kernel
theorem dX6_isTrue_85 : decode cX6_isTrue 85 = .ok (.goto 4, 3) := by decide +kernel
theorem dX6_isTrue_88 : decode cX6_isTrue 88 = .ok (.iconst 0, 1) := by decide +kernel
theorem dX6_isTrue_89 : decode cX6_isTrue 89 = .ok (.istore 6, 2) := by decide +kernel
theorem dX6_isTrue_91 : decode cX6_isTrue 91 = .ok (.iload 6, 2) := by decide +kernel
theorem dX6_isTrue_93 : decode cX6_isTrue 93 = .ok (.ifCond .eq 48, 3) := by decide +kernel
theorem dX6_isTrue_96 : decode cX6_isTrue 96 = .ok (.aload_n 0, 1) := by decide +kernel
theorem dX6_isTrue_97 : decode cX6_isTrue 97 = .ok (.aload_n 0, 1) := by decide +kernel
theorem dX6_isTrue_98 : decode cX6_isTrue 98 = .ok (.getfield 60, 3) := by decide +kernel
theorem dX6_isTrue_101 : decode cX6_isTrue 101 = .ok (.iload_n 1, 1) := by decide +kernel
theorem dX6_isTrue_102 : decode cX6_isTrue 102 = .ok (.iaload, 1) := by decide +kernel
theorem dX6_isTrue_103 : decode cX6_isTrue 103 = .ok (.aload_n 0, 1) := by decide +kernel
theorem dX6_isTrue_104 : decode cX6_isTrue 104 = .ok (.getfield 63, 3) := by decide +kernel
theorem dX6_isTrue_107 : decode cX6_isTrue 107 = .ok (.bipush 8, 2) := by decide +kernel
theorem dX6_isTrue_109 : decode cX6_isTrue 109 = .ok (.iload_n 1, 1) := by decide +kernel
theorem dX6_isTrue_110 : decode cX6_isTrue 110 = .ok (.imul, 1) := by decide +kernel
theorem dX6_isTrue_111 : decode cX6_isTrue 111 = .ok (.iload 4, 2) := by decide +kernel
theorem dX6_isTrue_113 : decode cX6_isTrue 113 = .ok (.iadd, 1) := by decide +kernel
theorem dX6_isTrue_114 : decode cX6_isTrue 114 = .ok (.iaload, 1) := by decide +kernel
theorem dX6_isTrue_115 : decode cX6_isTrue 115 = .ok (.iload 5, 2) := by decide +kernel
theorem dX6_isTrue_117 : decode cX6_isTrue 117 = .ok (.invokestatic 106, 3) := by decide +kernel
theorem dX6_isTrue_120 : decode cX6_isTrue 120 = .ok (.invokevirtual 95, 3) := by decide +kernel
theorem dX6_isTrue_123 : decode cX6_isTrue 123 = .ok (.aload_n 0, 1) := by decide +kernel
theorem dX6_isTrue_124 : decode cX6_isTrue 124 = .ok (.iload_n 1, 1) := by decide +kernel
theorem dX6_isTrue_125 : decode cX6_isTrue 125 = .ok (.iload 4, 2) := by decide +kernel
theorem dX6_isTrue_127 : decode cX6_isTrue 127 = .ok (.iload 5, 2) := by decide +kernel
theorem dX6_isTrue_129 : decode cX6_isTrue 129 = .ok (.iconst 4, 1) := by decide +kernel
theorem dX6_isTrue_130 : decode cX6_isTrue 130 = .ok (.idiv, 1) := by decide +kernel
theorem dX6_isTrue_131 : decode cX6_isTrue 131 = .ok (.iload 5, 2) := by decide +kernel
theorem dX6_isTrue_133 : decode cX6_isTrue 133 = .ok (.iconst 4, 1) := by decide +kernel
theorem dX6_isTrue_134 : decode cX6_isTrue 134 = .ok (.irem, 1) := by decide +kernel
theorem dX6_isTrue_135 : decode cX6_isTrue 135 = .ok (.invokevirtual 109, 3) := by decide +kernel
theorem dX6_isTrue_138 : decode cX6_isTrue 138 = .ok (.if_icmp .ne 7, 3) := by decide +kernel
theorem dX6_isTrue_141 : decode cX6_isTrue 141 = .ok (.iconst 1, 1) := by decide +kernel
theorem dX6_isTrue_142 : decode cX6_isTrue 142 = .ok (.goto 4, 3) := by decide +kernel
theorem dX6_isTrue_145 : decode cX6_isTrue 145 = .ok (.iconst 0, 1) := by decide +kernel
theorem dX6_isTrue_146 : decode cX6_isTrue 146 = .ok (.istore_n 2, 1) := by decide +kernel
theorem dX6_isTrue_147 : decode cX6_isTrue 147 = .ok (.iinc 3 1, 3) := by decide +kernel
theorem dX6_isTrue_150 : decode cX6_isTrue 150 = .ok (.goto (-108), 3) := by decide +kernel
theorem dX6_isTrue_153 : decode cX6_isTrue 153 = .ok (.iload_n 2, 1) := by decide +kernel
theorem dX6_isTrue_154 : decode cX6_isTrue 154 = .ok (.ireturn, 1) := by decide +kernel
theorem dX6_inputOf_0 : decode cX6_inputOf 0 = .ok (.lload_n 0, 1) := by decide +kernel
theorem dX6_inputOf_1 : decode cX6_inputOf 1 = .ok (.bipush 8, 2) := by decide +kernel
theorem dX6_inputOf_3 : decode cX6_inputOf 3 = .ok (.iload_n 2, 1) := by decide +kernel
theorem dX6_inputOf_4 : decode cX6_inputOf 4 = .ok (.imul, 1) := by decide +kernel
theorem dX6_inputOf_5 : decode cX6_inputOf 5 = .ok (.lushr, 1) := by decide +kernel
theorem dX6_inputOf_6 : decode cX6_inputOf 6 = .ok (.ldc2_w 154, 3) := by decide +kernel
theorem dX6_inputOf_9 : decode cX6_inputOf 9 = .ok (.land, 1) := by decide +kernel
theorem dX6_inputOf_10 : decode cX6_inputOf 10 = .ok (.l2i, 1) := by decide +kernel
theorem dX6_inputOf_11 : decode cX6_inputOf 11 = .ok (.ireturn, 1) := by decide +kernel
theorem dX6_reads_0 : decode cX6_reads 0 = .ok (.iload_n 3, 1) := by decide +kernel
theorem dX6_reads_1 : decode cX6_reads 1 = .ok (.aload_n 0, 1) := by decide +kernel
theorem dX6_reads_2 : decode cX6_reads 2 = .ok (.getfield 39, 3) := by decide +kernel
theorem dX6_reads_5 : decode cX6_reads 5 = .ok (.iload_n 1, 1) := by decide +kernel
theorem dX6_reads_6 : decode cX6_reads 6 = .ok (.baload, 1) := by decide +kernel
theorem dX6_reads_7 : decode cX6_reads 7 = .ok (.ifCond .eq 7, 3) := by decide +kernel
theorem dX6_reads_10 : decode cX6_reads 10 = .ok (.iconst 0, 1) := by decide +kernel
theorem dX6_reads_11 : decode cX6_reads 11 = .ok (.goto 14, 3) := by decide +kernel
theorem dX6_reads_14 : decode cX6_reads 14 = .ok (.aload_n 0, 1) := by decide +kernel
theorem dX6_reads_15 : decode cX6_reads 15 = .ok (.getfield 36, 3) := by decide +kernel
theorem dX6_reads_18 : decode cX6_reads 18 = .ok (.bipush 16, 2) := by decide +kernel
theorem dX6_reads_20 : decode cX6_reads 20 = .ok (.iload_n 1, 1) := by decide +kernel
theorem dX6_reads_21 : decode cX6_reads 21 = .ok (.imul, 1) := by decide +kernel
theorem dX6_reads_22 : decode cX6_reads 22 = .ok (.iload_n 2, 1) := by decide +kernel
theorem dX6_reads_23 : decode cX6_reads 23 = .ok (.iadd, 1) := by decide +kernel
theorem dX6_reads_24 : decode cX6_reads 24 = .ok (.iaload, 1) := by decide +kernel
theorem dX6_reads_25 : decode cX6_reads 25 = .ok (.iadd, 1) := by decide +kernel
theorem dX6_reads_26 : decode cX6_reads 26 = .ok (.istore 4, 2) := by decide +kernel
theorem dX6_reads_28 : decode cX6_reads 28 = .ok (.iload 4, 2) := by decide +kernel
theorem dX6_reads_30 : decode cX6_reads 30 = .ok (.ifCond .ge 7, 3) := by decide +kernel
theorem dX6_reads_33 : decode cX6_reads 33 = .ok (.iconst 0, 1) := by decide +kernel
theorem dX6_reads_34 : decode cX6_reads 34 = .ok (.goto 5, 3) := by decide +kernel
theorem dX6_reads_37 : decode cX6_reads 37 = .ok (.iload 4, 2) := by decide +kernel
theorem dX6_reads_39 : decode cX6_reads 39 = .ok (.aload_n 0, 1) := by decide +kernel
theorem dX6_reads_40 : decode cX6_reads 40 = .ok (.getfield 30, 3) := by decide +kernel
theorem dX6_reads_43 : decode cX6_reads 43 = .ok (.iload_n 1, 1) := by decide +kernel
theorem dX6_reads_44 : decode cX6_reads 44 = .ok (.iaload, 1) := by decide +kernel
theorem dX6_reads_45 : decode cX6_reads 45 = .ok (.idiv, 1) := by decide +kernel
theorem dX6_reads_46 : decode cX6_reads 46 = .ok (.istore 4, 2) := by decide +kernel
theorem dX6_reads_48 : decode cX6_reads 48 = .ok (.iload 4, 2) := by decide +kernel
theorem dX6_reads_50 : decode cX6_reads 50 = .ok (.aload_n 0, 1) := by decide +kernel
theorem dX6_reads_51 : decode cX6_reads 51 = .ok (.getfield 33, 3) := by decide +kernel
theorem dX6_reads_54 : decode cX6_reads 54 = .ok (.iload_n 1, 1) := by decide +kernel
theorem dX6_reads_55 : decode cX6_reads 55 = .ok (.iaload, 1) := by decide +kernel
theorem dX6_reads_56 : decode cX6_reads 56 = .ok (.if_icmp .le 12, 3) := by decide +kernel
theorem dX6_reads_59 : decode cX6_reads 59 = .ok (.aload_n 0, 1) := by decide +kernel
theorem dX6_reads_60 : decode cX6_reads 60 = .ok (.getfield 33, 3) := by decide +kernel
theorem dX6_reads_63 : decode cX6_reads 63 = .ok (.iload_n 1, 1) := by decide +kernel
theorem dX6_reads_64 : decode cX6_reads 64 = .ok (.iaload, 1) := by decide +kernel
theorem dX6_reads_65 : decode cX6_reads 65 = .ok (.goto 5, 3) := by decide +kernel
theorem dX6_reads_68 : decode cX6_reads 68 = .ok (.iload 4, 2) := by decide +kernel
theorem dX6_reads_70 : decode cX6_reads 70 = .ok (.aload_n 0, 1) := by decide +kernel
theorem dX6_reads_71 : decode cX6_reads 71 = .ok (.getfield 30, 3) := by decide +kernel
theorem dX6_reads_74 : decode cX6_reads 74 = .ok (.iload_n 1, 1) := by decide +kernel
theorem dX6_reads_75 : decode cX6_reads 75 = .ok (.iaload, 1) := by decide +kernel
theorem dX6_reads_76 : decode cX6_reads 76 = .ok (.imul, 1) := by decide +kernel
theorem dX6_reads_77 : decode cX6_reads 77 = .ok (.ireturn, 1) := by decide +kernel
set_option maxRecDepth 20000 in
theorem ggX6_answerOf_X6_inputOf : GoodIn wsX6_answerOf wsX6_inputOf := goodIn_r _ [7, 8] (by decide +kernel) (by decide +kernel)
set_option maxRecDepth 20000 in
theorem gX6_answerOf_X6_inputOf : GoodIn wsX6_answerOf (va_wsS RX6 156 yX6_inputOf wsX6_inputOf) := goodIn_app (goodIn_of _ (by decide +kernel)) ggX6_answerOf_X6_inputOf
set_option maxRecDepth 20000 in
theorem ggX6_answerOf_X6_cellAt : GoodIn wsX6_answerOf wsX6_cellAt := goodIn_r _ [11] (by decide +kernel) (by decide +kernel)
set_option maxRecDepth 20000 in
theorem gX6_answerOf_X6_cellAt : GoodIn wsX6_answerOf (va_wsS RX6 106 yX6_cellAt wsX6_cellAt) := goodIn_app (goodIn_of _ (by decide +kernel)) ggX6_answerOf_X6_cellAt
set_option maxRecDepth 20000 in
theorem ggX6_answerOf_X6_conducts : GoodIn wsX6_answerOf wsX6_conducts := goodIn_r _ [15, 16, 17, 18, 19, 20, 29, 30, 31, 32, 33, 34, 35, 36, 37, 38, 39, 40, 41, 42, 43, 44, 45, 46, 47, 48, 49, 50, 51, 52, 53] (by decide +kernel) (by decide +kernel)
set_option maxRecDepth 20000 in
theorem gX6_answerOf_X6_conducts : GoodIn wsX6_answerOf (wsV RX6 95 RX6 yX6_conducts wsX6_conducts) := goodIn_app (goodIn_of _ (by decide +kernel)) ggX6_answerOf_X6_conducts
set_option maxRecDepth 20000 in
theorem ggX6_answerOf_X6_reads : GoodIn wsX6_answerOf wsX6_reads := goodIn_r _ [24, 25, 26, 27, 28, 29, 30, 31, 32, 33, 34, 35, 36, 37, 38, 39, 40, 41, 42, 43, 44, 45, 46, 47, 48, 49, 50, 51, 52, 53] (by decide +kernel) (by decide +kernel)
set_option maxRecDepth 20000 in
theorem gX6_answerOf_X6_reads : GoodIn wsX6_answerOf (wsV RX6 160 RX6 yX6_reads wsX6_reads) := goodIn_app (goodIn_of _ (by decide +kernel)) ggX6_answerOf_X6_reads
theorem dX6_answerOf_0 : decode cX6_answerOf 0 = .ok (.aload_n 0, 1) := by decide +kernel
theorem dX6_answerOf_1 : decode cX6_answerOf 1 = .ok (.getfield 60, 3) := by decide +kernel
theorem dX6_answerOf_4 : decode cX6_answerOf 4 = .ok (.iload_n 1, 1) := by decide +kernel
theorem dX6_answerOf_5 : decode cX6_answerOf 5 = .ok (.iaload, 1) := by decide +kernel
theorem dX6_answerOf_6 : decode cX6_answerOf 6 = .ok (.istore 5, 2) := by decide +kernel
theorem dX6_answerOf_8 : decode cX6_answerOf 8 = .ok (.iconst 0, 1) := by decide +kernel
theorem dX6_answerOf_9 : decode cX6_answerOf 9 = .ok (.istore 6, 2) := by decide +kernel
theorem dX6_answerOf_11 : decode cX6_answerOf 11 = .ok (.iconst 0, 1) := by decide +kernel
theorem dX6_answerOf_12 : decode cX6_answerOf 12 = .ok (.istore 7, 2) := by decide +kernel
theorem dX6_answerOf_14 : decode cX6_answerOf 14 = .ok (.iload 7, 2) := by decide +kernel
theorem dX6_answerOf_16 : decode cX6_answerOf 16 = .ok (.bipush 8, 2) := by decide +kernel
theorem dX6_answerOf_18 : decode cX6_answerOf 18 = .ok (.if_icmp .ge 173, 3) := by decide +kernel
theorem dX6_answerOf_21 : decode cX6_answerOf 21 = .ok (.iconst 0, 1) := by decide +kernel
theorem dX6_answerOf_22 : decode cX6_answerOf 22 = .ok (.istore 8, 2) := by decide +kernel
theorem dX6_answerOf_24 : decode cX6_answerOf 24 = .ok (.iconst 0, 1) := by decide +kernel
theorem dX6_answerOf_25 : decode cX6_answerOf 25 = .ok (.istore 9, 2) := by decide +kernel
theorem dX6_answerOf_27 : decode cX6_answerOf 27 = .ok (.iload 9, 2) := by decide +kernel
theorem dX6_answerOf_29 : decode cX6_answerOf 29 = .ok (.iconst 4, 1) := by decide +kernel
theorem dX6_answerOf_30 : decode cX6_answerOf 30 = .ok (.if_icmp .ge 145, 3) := by decide +kernel
theorem dX6_answerOf_33 : decode cX6_answerOf 33 = .ok (.iconst 4, 1) := by decide +kernel
theorem dX6_answerOf_34 : decode cX6_answerOf 34 = .ok (.iload 4, 2) := by decide +kernel
theorem dX6_answerOf_36 : decode cX6_answerOf 36 = .ok (.imul, 1) := by decide +kernel
theorem dX6_answerOf_37 : decode cX6_answerOf 37 = .ok (.iload 9, 2) := by decide +kernel
theorem dX6_answerOf_39 : decode cX6_answerOf 39 = .ok (.iadd, 1) := by decide +kernel
theorem dX6_answerOf_40 : decode cX6_answerOf 40 = .ok (.istore 10, 2) := by decide +kernel
theorem dX6_answerOf_42 : decode cX6_answerOf 42 = .ok (.iconst 0, 1) := by decide +kernel
theorem dX6_answerOf_43 : decode cX6_answerOf 43 = .ok (.istore 11, 2) := by decide +kernel
theorem dX6_answerOf_45 : decode cX6_answerOf 45 = .ok (.iconst 0, 1) := by decide +kernel
theorem dX6_answerOf_46 : decode cX6_answerOf 46 = .ok (.istore 12, 2) := by decide +kernel
theorem dX6_answerOf_48 : decode cX6_answerOf 48 = .ok (.iload 12, 2) := by decide +kernel
theorem dX6_answerOf_50 : decode cX6_answerOf 50 = .ok (.aload_n 0, 1) := by decide +kernel
theorem dX6_answerOf_51 : decode cX6_answerOf 51 = .ok (.getfield 45, 3) := by decide +kernel
theorem dX6_answerOf_54 : decode cX6_answerOf 54 = .ok (.iload_n 1, 1) := by decide +kernel
theorem dX6_answerOf_55 : decode cX6_answerOf 55 = .ok (.iaload, 1) := by decide +kernel
theorem dX6_answerOf_56 : decode cX6_answerOf 56 = .ok (.if_icmp .ge 68, 3) := by decide +kernel
theorem dX6_answerOf_59 : decode cX6_answerOf 59 = .ok (.lload_n 2, 1) := by decide +kernel
theorem dX6_answerOf_60 : decode cX6_answerOf 60 = .ok (.iload 12, 2) := by decide +kernel
theorem dX6_answerOf_62 : decode cX6_answerOf 62 = .ok (.invokestatic 156, 3) := by decide +kernel
theorem dX6_answerOf_65 : decode cX6_answerOf 65 = .ok (.iload 7, 2) := by decide +kernel
theorem dX6_answerOf_67 : decode cX6_answerOf 67 = .ok (.ishr, 1) := by decide +kernel
theorem dX6_answerOf_68 : decode cX6_answerOf 68 = .ok (.iconst 1, 1) := by decide +kernel
theorem dX6_answerOf_69 : decode cX6_answerOf 69 = .ok (.iand, 1) := by decide +kernel
theorem dX6_answerOf_70 : decode cX6_answerOf 70 = .ok (.iconst 1, 1) := by decide +kernel
theorem dX6_answerOf_71 : decode cX6_answerOf 71 = .ok (.if_icmp .ne 7, 3) := by decide +kernel
theorem dX6_answerOf_74 : decode cX6_answerOf 74 = .ok (.iconst 1, 1) := by decide +kernel
theorem dX6_answerOf_75 : decode cX6_answerOf 75 = .ok (.goto 4, 3) := by decide +kernel
theorem dX6_answerOf_78 : decode cX6_answerOf 78 = .ok (.iconst 0, 1) := by decide +kernel
theorem dX6_answerOf_79 : decode cX6_answerOf 79 = .ok (.istore 13, 2) := by decide +kernel
theorem dX6_answerOf_81 : decode cX6_answerOf 81 = .ok (.iload 11, 2) := by decide +kernel
theorem dX6_answerOf_83 : decode cX6_answerOf 83 = .ok (.iload 13, 2) := by decide +kernel
theorem dX6_answerOf_85 : decode cX6_answerOf 85 = .ok (.ifCond .eq 29, 3) := by decide +kernel
theorem dX6_answerOf_88 : decode cX6_answerOf 88 = .ok (.aload_n 0, 1) := by decide +kernel
theorem dX6_answerOf_89 : decode cX6_answerOf 89 = .ok (.iload 5, 2) := by decide +kernel
theorem dX6_answerOf_91 : decode cX6_answerOf 91 = .ok (.aload_n 0, 1) := by decide +kernel
theorem dX6_answerOf_92 : decode cX6_answerOf 92 = .ok (.getfield 63, 3) := by decide +kernel
theorem dX6_answerOf_95 : decode cX6_answerOf 95 = .ok (.bipush 8, 2) := by decide +kernel
theorem dX6_answerOf_97 : decode cX6_answerOf 97 = .ok (.iload_n 1, 1) := by decide +kernel
theorem dX6_answerOf_98 : decode cX6_answerOf 98 = .ok (.imul, 1) := by decide +kernel
theorem dX6_answerOf_99 : decode cX6_answerOf 99 = .ok (.iload 12, 2) := by decide +kernel
theorem dX6_answerOf_101 : decode cX6_answerOf 101 = .ok (.iadd, 1) := by decide +kernel
theorem dX6_answerOf_102 : decode cX6_answerOf 102 = .ok (.iaload, 1) := by decide +kernel
theorem dX6_answerOf_103 : decode cX6_answerOf 103 = .ok (.iload 10, 2) := by decide +kernel
theorem dX6_answerOf_105 : decode cX6_answerOf 105 = .ok (.invokestatic 106, 3) := by decide +kernel
theorem dX6_answerOf_108 : decode cX6_answerOf 108 = .ok (.invokevirtual 95, 3) := by decide +kernel
theorem dX6_answerOf_111 : decode cX6_answerOf 111 = .ok (.goto 4, 3) := by decide +kernel
theorem dX6_answerOf_114 : decode cX6_answerOf 114 = .ok (.iconst 0, 1) := by decide +kernel
theorem dX6_answerOf_115 : decode cX6_answerOf 115 = .ok (.iadd, 1) := by decide +kernel
theorem dX6_answerOf_116 : decode cX6_answerOf 116 = .ok (.istore 11, 2) := by decide +kernel
theorem dX6_answerOf_118 : decode cX6_answerOf 118 = .ok (.iinc 12 1, 3) := by decide +kernel
theorem dX6_answerOf_121 : decode cX6_answerOf 121 = .ok (.goto (-73), 3) := by decide +kernel
theorem dX6_answerOf_124 : decode cX6_answerOf 124 = .ok (.aload_n 0, 1) := by decide +kernel
theorem dX6_answerOf_125 : decode cX6_answerOf 125 = .ok (.iload 5, 2) := by decide +kernel
theorem dX6_answerOf_127 : decode cX6_answerOf 127 = .ok (.iload 10, 2) := by decide +kernel
theorem dX6_answerOf_129 : decode cX6_answerOf 129 = .ok (.iload 11, 2) := by decide +kernel
theorem dX6_answerOf_131 : decode cX6_answerOf 131 = .ok (.invokevirtual 160, 3) := by decide +kernel
theorem dX6_answerOf_134 : decode cX6_answerOf 134 = .ok (.iload 9, 2) := by decide +kernel
theorem dX6_answerOf_136 : decode cX6_answerOf 136 = .ok (.iconst 2, 1) := by decide +kernel
theorem dX6_answerOf_137 : decode cX6_answerOf 137 = .ok (.irem, 1) := by decide +kernel
theorem dX6_answerOf_138 : decode cX6_answerOf 138 = .ok (.ifCond .ne 7, 3) := by decide +kernel
theorem dX6_answerOf_141 : decode cX6_answerOf 141 = .ok (.iconst 1, 1) := by decide +kernel
theorem dX6_answerOf_142 : decode cX6_answerOf 142 = .ok (.goto 5, 3) := by decide +kernel
theorem dX6_answerOf_145 : decode cX6_answerOf 145 = .ok (.bipush 16, 2) := by decide +kernel
theorem dX6_answerOf_147 : decode cX6_answerOf 147 = .ok (.imul, 1) := by decide +kernel
theorem dX6_answerOf_148 : decode cX6_answerOf 148 = .ok (.istore 12, 2) := by decide +kernel
theorem dX6_answerOf_150 : decode cX6_answerOf 150 = .ok (.iload 8, 2) := by decide +kernel
theorem dX6_answerOf_152 : decode cX6_answerOf 152 = .ok (.iload 9, 2) := by decide +kernel
theorem dX6_answerOf_154 : decode cX6_answerOf 154 = .ok (.iconst 2, 1) := by decide +kernel
theorem dX6_answerOf_155 : decode cX6_answerOf 155 = .ok (.if_icmp .ge 8, 3) := by decide +kernel
theorem dX6_answerOf_158 : decode cX6_answerOf 158 = .ok (.iload 12, 2) := by decide +kernel
theorem dX6_answerOf_160 : decode cX6_answerOf 160 = .ok (.goto 6, 3) := by decide +kernel
theorem dX6_answerOf_163 : decode cX6_answerOf 163 = .ok (.iload 12, 2) := by decide +kernel
theorem dX6_answerOf_165 : decode cX6_answerOf 165 = .ok (.ineg, 1) := by decide +kernel
theorem dX6_answerOf_166 : decode cX6_answerOf 166 = .ok (.iadd, 1) := by decide +kernel
theorem dX6_answerOf_167 : decode cX6_answerOf 167 = .ok (.istore 8, 2) := by decide +kernel
theorem dX6_answerOf_169 : decode cX6_answerOf 169 = .ok (.iinc 9 1, 3) := by decide +kernel
theorem dX6_answerOf_172 : decode cX6_answerOf 172 = .ok (.goto (-145), 3) := by decide +kernel
theorem dX6_answerOf_175 : decode cX6_answerOf 175 = .ok (.iload 6, 2) := by decide +kernel
theorem dX6_answerOf_177 : decode cX6_answerOf 177 = .ok (.iload 8, 2) := by decide +kernel
theorem dX6_answerOf_179 : decode cX6_answerOf 179 = .ok (.iload 7, 2) := by decide +kernel
theorem dX6_answerOf_181 : decode cX6_answerOf 181 = .ok (.ishl, 1) := by decide +kernel
theorem dX6_answerOf_182 : decode cX6_answerOf 182 = .ok (.iadd, 1) := by decide +kernel
theorem dX6_answerOf_183 : decode cX6_answerOf 183 = .ok (.istore 6, 2) := by decide +kernel
theorem dX6_answerOf_185 : decode cX6_answerOf 185 = .ok (.iinc 7 1, 3) := by decide +kernel
theorem dX6_answerOf_188 : decode cX6_answerOf 188 = .ok (.goto (-174), 3) := by decide +kernel
theorem dX6_answerOf_191 : decode cX6_answerOf 191 = .ok (.iload 6, 2) := by decide +kernel
theorem dX6_answerOf_193 : decode cX6_answerOf 193 = .ok (.ireturn, 1) := by decide +kernel
set_option maxRecDepth 20000 in
theorem ggX6_answer_X6_isLayer : GoodIn wsX6_answer wsX6_isLayer := goodIn_r _ [8, 9, 10, 11, 7, 12, 43, 44, 45, 46, 47, 48, 49, 50, 51, 52, 53, 54, 55, 56, 57, 58, 59, 60, 61, 62, 63, 64, 65, 66, 67] (by decide +kernel) (by decide +kernel)
set_option maxRecDepth 20000 in
theorem gX6_answer_X6_isLayer : GoodIn wsX6_answer (wsV RX6 99 RX6 yX6_isLayer wsX6_isLayer) := goodIn_app (goodIn_of _ (by decide +kernel)) ggX6_answer_X6_isLayer
set_option maxRecDepth 20000 in
theorem ggX6_answer_X6_in : GoodIn wsX6_answer wsX6_in := goodIn_r _ [12] (by decide +kernel) (by decide +kernel)
set_option maxRecDepth 20000 in
theorem gX6_answer_X6_in : GoodIn wsX6_answer (va_wsS RX6 81 yX6_in wsX6_in) := goodIn_app (goodIn_of _ (by decide +kernel)) ggX6_answer_X6_in
set_option maxRecDepth 20000 in
theorem ggX6_answer_X6_answerOf : GoodIn wsX6_answer wsX6_answerOf := goodIn_r _ [16, 2, 17, 18, 19, 20, 7, 21, 22, 23, 24, 25, 26, 27, 28, 29, 30, 31, 32, 33, 34, 35, 36, 37, 38, 39, 40, 41, 42, 43, 44, 45, 46, 47, 48, 49, 50, 51, 52, 53, 54, 55, 56, 57, 58, 59, 60, 61, 62, 63, 64, 65, 66, 67] (by decide +kernel) (by decide +kernel)
set_option maxRecDepth 20000 in
theorem gX6_answer_X6_answerOf : GoodIn wsX6_answer (wsV RX6 163 RX6 yX6_answerOf wsX6_answerOf) := goodIn_app (goodIn_of _ (by decide +kernel)) ggX6_answer_X6_answerOf
theorem dX6_answer_0 : decode cX6_answer 0 = .ok (.aload_n 0, 1) := by decide +kernel
theorem dX6_answer_1 : decode cX6_answer 1 = .ok (.aload_n 0, 1) := by decide +kernel
theorem dX6_answer_2 : decode cX6_answer 2 = .ok (.iload_n 1, 1) := by decide +kernel
theorem dX6_answer_3 : decode cX6_answer 3 = .ok (.invokevirtual 99, 3) := by decide +kernel
theorem dX6_answer_6 : decode cX6_answer 6 = .ok (.ifCond .eq 20, 3) := by decide +kernel
theorem dX6_answer_9 : decode cX6_answer 9 = .ok (.iload 4, 2) := by decide +kernel
theorem dX6_answer_11 : decode cX6_answer 11 = .ok (.iconst 0, 1) := by decide +kernel
theorem dX6_answer_12 : decode cX6_answer 12 = .ok (.aload_n 0, 1) := by decide +kernel
theorem dX6_answer_13 : decode cX6_answer 13 = .ok (.getfield 48, 3) := by decide +kernel
theorem dX6_answer_16 : decode cX6_answer 16 = .ok (.iload_n 1, 1) := by decide +kernel
theorem dX6_answer_17 : decode cX6_answer 17 = .ok (.iaload, 1) := by decide +kernel
theorem dX6_answer_18 : decode cX6_answer 18 = .ok (.iconst 1, 1) := by decide +kernel
theorem dX6_answer_19 : decode cX6_answer 19 = .ok (.isub, 1) := by decide +kernel
theorem dX6_answer_20 : decode cX6_answer 20 = .ok (.invokestatic 81, 3) := by decide +kernel
theorem dX6_answer_23 : decode cX6_answer 23 = .ok (.ifCond .ne 7, 3) := by decide +kernel
theorem dX6_answer_26 : decode cX6_answer 26 = .ok (.iconst 1, 1) := by decide +kernel
theorem dX6_answer_27 : decode cX6_answer 27 = .ok (.goto 18, 3) := by decide +kernel
theorem dX6_answer_30 : decode cX6_answer 30 = .ok (.aload_n 0, 1) := by decide +kernel
theorem dX6_answer_31 : decode cX6_answer 31 = .ok (.getfield 60, 3) := by decide +kernel
theorem dX6_answer_34 : decode cX6_answer 34 = .ok (.iload_n 1, 1) := by decide +kernel
theorem dX6_answer_35 : decode cX6_answer 35 = .ok (.iaload, 1) := by decide +kernel
theorem dX6_answer_36 : decode cX6_answer 36 = .ok (.iconst (-1), 1) := by decide +kernel
theorem dX6_answer_37 : decode cX6_answer 37 = .ok (.if_icmp .ne 7, 3) := by decide +kernel
theorem dX6_answer_40 : decode cX6_answer 40 = .ok (.iconst 2, 1) := by decide +kernel
theorem dX6_answer_41 : decode cX6_answer 41 = .ok (.goto 4, 3) := by decide +kernel
theorem dX6_answer_44 : decode cX6_answer 44 = .ok (.iconst 0, 1) := by decide +kernel
theorem dX6_answer_45 : decode cX6_answer 45 = .ok (.putfield 75, 3) := by decide +kernel
theorem dX6_answer_48 : decode cX6_answer 48 = .ok (.aload_n 0, 1) := by decide +kernel
theorem dX6_answer_49 : decode cX6_answer 49 = .ok (.getfield 75, 3) := by decide +kernel
theorem dX6_answer_52 : decode cX6_answer 52 = .ok (.ifCond .le 7, 3) := by decide +kernel
theorem dX6_answer_55 : decode cX6_answer 55 = .ok (.iconst 0, 1) := by decide +kernel
theorem dX6_answer_56 : decode cX6_answer 56 = .ok (.goto 11, 3) := by decide +kernel
theorem dX6_answer_59 : decode cX6_answer 59 = .ok (.aload_n 0, 1) := by decide +kernel
theorem dX6_answer_60 : decode cX6_answer 60 = .ok (.iload_n 1, 1) := by decide +kernel
theorem dX6_answer_61 : decode cX6_answer 61 = .ok (.lload_n 2, 1) := by decide +kernel
theorem dX6_answer_62 : decode cX6_answer 62 = .ok (.iload 4, 2) := by decide +kernel
theorem dX6_answer_64 : decode cX6_answer 64 = .ok (.invokevirtual 163, 3) := by decide +kernel
theorem dX6_answer_67 : decode cX6_answer 67 = .ok (.ireturn, 1) := by decide +kernel
set_option maxRecDepth 20000 in
theorem ggX6_idealOf_X6_weightAt : GoodIn wsX6_idealOf wsX6_weightAt := goodIn_r _ [6] (by decide +kernel) (by decide +kernel)
set_option maxRecDepth 20000 in
theorem gX6_idealOf_X6_weightAt : GoodIn wsX6_idealOf (va_wsS RX6 102 yX6_weightAt wsX6_weightAt) := goodIn_app (goodIn_of _ (by decide +kernel)) ggX6_idealOf_X6_weightAt
set_option maxRecDepth 20000 in
theorem ggX6_idealOf_X6_inputOf : GoodIn wsX6_idealOf wsX6_inputOf := goodIn_r _ [9, 10] (by decide +kernel) (by decide +kernel)
set_option maxRecDepth 20000 in
theorem gX6_idealOf_X6_inputOf : GoodIn wsX6_idealOf (va_wsS RX6 156 yX6_inputOf wsX6_inputOf) := goodIn_app (goodIn_of _ (by decide +kernel)) ggX6_idealOf_X6_inputOf
theorem dX6_idealOf_0 : decode cX6_idealOf 0 = .ok (.iconst 0, 1) := by decide +kernel
theorem dX6_idealOf_1 : decode cX6_idealOf 1 = .ok (.istore 5, 2) := by decide +kernel
theorem dX6_idealOf_3 : decode cX6_idealOf 3 = .ok (.iconst 0, 1) := by decide +kernel
theorem dX6_idealOf_4 : decode cX6_idealOf 4 = .ok (.istore 6, 2) := by decide +kernel
theorem dX6_idealOf_6 : decode cX6_idealOf 6 = .ok (.iload 6, 2) := by decide +kernel
theorem dX6_idealOf_8 : decode cX6_idealOf 8 = .ok (.aload_n 0, 1) := by decide +kernel
theorem dX6_idealOf_9 : decode cX6_idealOf 9 = .ok (.getfield 45, 3) := by decide +kernel
theorem dX6_idealOf_12 : decode cX6_idealOf 12 = .ok (.iload_n 1, 1) := by decide +kernel
theorem dX6_idealOf_13 : decode cX6_idealOf 13 = .ok (.iaload, 1) := by decide +kernel
theorem dX6_idealOf_14 : decode cX6_idealOf 14 = .ok (.if_icmp .ge 34, 3) := by decide +kernel
theorem dX6_idealOf_17 : decode cX6_idealOf 17 = .ok (.iload 5, 2) := by decide +kernel
theorem dX6_idealOf_19 : decode cX6_idealOf 19 = .ok (.aload_n 0, 1) := by decide +kernel
theorem dX6_idealOf_20 : decode cX6_idealOf 20 = .ok (.getfield 51, 3) := by decide +kernel
theorem dX6_idealOf_23 : decode cX6_idealOf 23 = .ok (.iload_n 1, 1) := by decide +kernel
theorem dX6_idealOf_24 : decode cX6_idealOf 24 = .ok (.iload 6, 2) := by decide +kernel
theorem dX6_idealOf_26 : decode cX6_idealOf 26 = .ok (.iload 4, 2) := by decide +kernel
theorem dX6_idealOf_28 : decode cX6_idealOf 28 = .ok (.invokestatic 102, 3) := by decide +kernel
theorem dX6_idealOf_31 : decode cX6_idealOf 31 = .ok (.iaload, 1) := by decide +kernel
theorem dX6_idealOf_32 : decode cX6_idealOf 32 = .ok (.lload_n 2, 1) := by decide +kernel
theorem dX6_idealOf_33 : decode cX6_idealOf 33 = .ok (.iload 6, 2) := by decide +kernel
theorem dX6_idealOf_35 : decode cX6_idealOf 35 = .ok (.invokestatic 156, 3) := by decide +kernel
theorem dX6_idealOf_38 : decode cX6_idealOf 38 = .ok (.imul, 1) := by decide +kernel
theorem dX6_idealOf_39 : decode cX6_idealOf 39 = .ok (.iadd, 1) := by decide +kernel
theorem dX6_idealOf_40 : decode cX6_idealOf 40 = .ok (.istore 5, 2) := by decide +kernel
theorem dX6_idealOf_42 : decode cX6_idealOf 42 = .ok (.iinc 6 1, 3) := by decide +kernel
theorem dX6_idealOf_45 : decode cX6_idealOf 45 = .ok (.goto (-39), 3) := by decide +kernel
theorem dX6_idealOf_48 : decode cX6_idealOf 48 = .ok (.iload 5, 2) := by decide +kernel
theorem dX6_idealOf_50 : decode cX6_idealOf 50 = .ok (.ireturn, 1) := by decide +kernel
set_option maxRecDepth 20000 in
theorem ggX6_ideal_X6_isLayer : GoodIn wsX6_ideal wsX6_isLayer := goodIn_r _ [7, 8, 9, 10, 6, 11, 25, 26, 27, 28, 29, 30, 31, 32, 33, 34, 35, 36, 37, 38, 39, 40, 41, 42, 43, 44, 45, 46, 47, 48, 49] (by decide +kernel) (by decide +kernel)
set_option maxRecDepth 20000 in
theorem gX6_ideal_X6_isLayer : GoodIn wsX6_ideal (wsV RX6 99 RX6 yX6_isLayer wsX6_isLayer) := goodIn_app (goodIn_of _ (by decide +kernel)) ggX6_ideal_X6_isLayer
set_option maxRecDepth 20000 in
theorem ggX6_ideal_X6_in : GoodIn wsX6_ideal wsX6_in := goodIn_r _ [11] (by decide +kernel) (by decide +kernel)
set_option maxRecDepth 20000 in
theorem gX6_ideal_X6_in : GoodIn wsX6_ideal (va_wsS RX6 81 yX6_in wsX6_in) := goodIn_app (goodIn_of _ (by decide +kernel)) ggX6_ideal_X6_in
set_option maxRecDepth 20000 in
theorem ggX6_ideal_X6_idealOf : GoodIn wsX6_ideal wsX6_idealOf := goodIn_r _ [15, 16, 17, 18, 19, 6, 20, 21, 22, 23, 24, 25, 26, 27, 28, 29, 30, 31, 32, 33, 34, 35, 36, 37, 38, 39, 40, 41, 42, 43, 44, 45, 46, 47, 48, 49] (by decide +kernel) (by decide +kernel)
set_option maxRecDepth 20000 in
theorem gX6_ideal_X6_idealOf : GoodIn wsX6_ideal (wsV RX6 167 RX6 yX6_idealOf wsX6_idealOf) := goodIn_app (goodIn_of _ (by decide +kernel)) ggX6_ideal_X6_idealOf
theorem dX6_ideal_0 : decode cX6_ideal 0 = .ok (.aload_n 0, 1) := by decide +kernel
theorem dX6_ideal_1 : decode cX6_ideal 1 = .ok (.aload_n 0, 1) := by decide +kernel
theorem dX6_ideal_2 : decode cX6_ideal 2 = .ok (.iload_n 1, 1) := by decide +kernel
theorem dX6_ideal_3 : decode cX6_ideal 3 = .ok (.invokevirtual 99, 3) := by decide +kernel
theorem dX6_ideal_6 : decode cX6_ideal 6 = .ok (.ifCond .eq 24, 3) := by decide +kernel
theorem dX6_ideal_9 : decode cX6_ideal 9 = .ok (.iload 4, 2) := by decide +kernel
theorem dX6_ideal_11 : decode cX6_ideal 11 = .ok (.iconst 0, 1) := by decide +kernel
theorem dX6_ideal_12 : decode cX6_ideal 12 = .ok (.aload_n 0, 1) := by decide +kernel
theorem dX6_ideal_13 : decode cX6_ideal 13 = .ok (.getfield 48, 3) := by decide +kernel
theorem dX6_ideal_16 : decode cX6_ideal 16 = .ok (.iload_n 1, 1) := by decide +kernel
theorem dX6_ideal_17 : decode cX6_ideal 17 = .ok (.iaload, 1) := by decide +kernel
theorem dX6_ideal_18 : decode cX6_ideal 18 = .ok (.iconst 1, 1) := by decide +kernel
theorem dX6_ideal_19 : decode cX6_ideal 19 = .ok (.isub, 1) := by decide +kernel
theorem dX6_ideal_20 : decode cX6_ideal 20 = .ok (.invokestatic 81, 3) := by decide +kernel
theorem dX6_ideal_23 : decode cX6_ideal 23 = .ok (.ifCond .eq 7, 3) := by decide +kernel
theorem dX6_ideal_26 : decode cX6_ideal 26 = .ok (.iconst 0, 1) := by decide +kernel
theorem dX6_ideal_27 : decode cX6_ideal 27 = .ok (.goto 4, 3) := by decide +kernel
theorem dX6_ideal_30 : decode cX6_ideal 30 = .ok (.iconst 1, 1) := by decide +kernel
theorem dX6_ideal_31 : decode cX6_ideal 31 = .ok (.putfield 75, 3) := by decide +kernel
theorem dX6_ideal_34 : decode cX6_ideal 34 = .ok (.aload_n 0, 1) := by decide +kernel
theorem dX6_ideal_35 : decode cX6_ideal 35 = .ok (.getfield 75, 3) := by decide +kernel
theorem dX6_ideal_38 : decode cX6_ideal 38 = .ok (.ifCond .le 7, 3) := by decide +kernel
theorem dX6_ideal_41 : decode cX6_ideal 41 = .ok (.iconst 0, 1) := by decide +kernel
theorem dX6_ideal_42 : decode cX6_ideal 42 = .ok (.goto 11, 3) := by decide +kernel
theorem dX6_ideal_45 : decode cX6_ideal 45 = .ok (.aload_n 0, 1) := by decide +kernel
theorem dX6_ideal_46 : decode cX6_ideal 46 = .ok (.iload_n 1, 1) := by decide +kernel
theorem dX6_ideal_47 : decode cX6_ideal 47 = .ok (.lload_n 2, 1) := by decide +kernel
theorem dX6_ideal_48 : decode cX6_ideal 48 = .ok (.iload 4, 2) := by decide +kernel
theorem dX6_ideal_50 : decode cX6_ideal 50 = .ok (.invokevirtual 167, 3) := by decide +kernel
theorem dX6_ideal_53 : decode cX6_ideal 53 = .ok (.ireturn, 1) := by decide +kernel
set_option maxRecDepth 20000 in
theorem ggX6_errorOf_X6_needs : GoodIn wsX6_errorOf wsX6_needs := goodIn_r _ [7, 8, 9, 10, 6, 11, 20, 21, 22, 23, 24, 25, 26, 27, 28, 29, 30, 31, 32, 33, 34, 35, 36, 37, 38, 39, 40, 41, 42, 43, 44] (by decide +kernel) (by decide +kernel)
set_option maxRecDepth 20000 in
theorem gX6_errorOf_X6_needs : GoodIn wsX6_errorOf (wsV RX6 109 RX6 yX6_needs wsX6_needs) := goodIn_app (goodIn_of _ (by decide +kernel)) ggX6_errorOf_X6_needs
set_option maxRecDepth 20000 in
theorem ggX6_errorOf_X6_reads : GoodIn wsX6_errorOf wsX6_reads := goodIn_r _ [15, 16, 17, 18, 19, 20, 21, 22, 23, 24, 25, 26, 27, 28, 29, 30, 31, 32, 33, 34, 35, 36, 37, 38, 39, 40, 41, 42, 43, 44] (by decide +kernel) (by decide +kernel)
set_option maxRecDepth 20000 in
theorem gX6_errorOf_X6_reads : GoodIn wsX6_errorOf (wsV RX6 160 RX6 yX6_reads wsX6_reads) := goodIn_app (goodIn_of _ (by decide +kernel)) ggX6_errorOf_X6_reads
theorem dX6_errorOf_0 : decode cX6_errorOf 0 = .ok (.iconst 0, 1) := by decide +kernel
theorem dX6_errorOf_1 : decode cX6_errorOf 1 = .ok (.istore 5, 2) := by decide +kernel
theorem dX6_errorOf_3 : decode cX6_errorOf 3 = .ok (.iconst 0, 1) := by decide +kernel
theorem dX6_errorOf_4 : decode cX6_errorOf 4 = .ok (.istore 6, 2) := by decide +kernel
theorem dX6_errorOf_6 : decode cX6_errorOf 6 = .ok (.iload 6, 2) := by decide +kernel
theorem dX6_errorOf_8 : decode cX6_errorOf 8 = .ok (.aload_n 0, 1) := by decide +kernel
theorem dX6_errorOf_9 : decode cX6_errorOf 9 = .ok (.getfield 45, 3) := by decide +kernel
theorem dX6_errorOf_12 : decode cX6_errorOf 12 = .ok (.iload_n 1, 1) := by decide +kernel
theorem dX6_errorOf_13 : decode cX6_errorOf 13 = .ok (.iaload, 1) := by decide +kernel
theorem dX6_errorOf_14 : decode cX6_errorOf 14 = .ok (.if_icmp .ge 23, 3) := by decide +kernel
theorem dX6_errorOf_17 : decode cX6_errorOf 17 = .ok (.iload 5, 2) := by decide +kernel
theorem dX6_errorOf_19 : decode cX6_errorOf 19 = .ok (.aload_n 0, 1) := by decide +kernel
theorem dX6_errorOf_20 : decode cX6_errorOf 20 = .ok (.iload_n 1, 1) := by decide +kernel
theorem dX6_errorOf_21 : decode cX6_errorOf 21 = .ok (.iload 6, 2) := by decide +kernel
theorem dX6_errorOf_23 : decode cX6_errorOf 23 = .ok (.iload_n 2, 1) := by decide +kernel
theorem dX6_errorOf_24 : decode cX6_errorOf 24 = .ok (.iload_n 3, 1) := by decide +kernel
theorem dX6_errorOf_25 : decode cX6_errorOf 25 = .ok (.invokevirtual 109, 3) := by decide +kernel
theorem dX6_errorOf_28 : decode cX6_errorOf 28 = .ok (.iadd, 1) := by decide +kernel
theorem dX6_errorOf_29 : decode cX6_errorOf 29 = .ok (.istore 5, 2) := by decide +kernel
theorem dX6_errorOf_31 : decode cX6_errorOf 31 = .ok (.iinc 6 1, 3) := by decide +kernel
theorem dX6_errorOf_34 : decode cX6_errorOf 34 = .ok (.goto (-28), 3) := by decide +kernel
theorem dX6_errorOf_37 : decode cX6_errorOf 37 = .ok (.iconst 4, 1) := by decide +kernel
theorem dX6_errorOf_38 : decode cX6_errorOf 38 = .ok (.iload_n 2, 1) := by decide +kernel
theorem dX6_errorOf_39 : decode cX6_errorOf 39 = .ok (.imul, 1) := by decide +kernel
theorem dX6_errorOf_40 : decode cX6_errorOf 40 = .ok (.iload_n 3, 1) := by decide +kernel
theorem dX6_errorOf_41 : decode cX6_errorOf 41 = .ok (.iadd, 1) := by decide +kernel
theorem dX6_errorOf_42 : decode cX6_errorOf 42 = .ok (.istore 6, 2) := by decide +kernel
theorem dX6_errorOf_44 : decode cX6_errorOf 44 = .ok (.aload_n 0, 1) := by decide +kernel
theorem dX6_errorOf_45 : decode cX6_errorOf 45 = .ok (.aload_n 0, 1) := by decide +kernel
theorem dX6_errorOf_46 : decode cX6_errorOf 46 = .ok (.getfield 60, 3) := by decide +kernel
theorem dX6_errorOf_49 : decode cX6_errorOf 49 = .ok (.iload_n 1, 1) := by decide +kernel
theorem dX6_errorOf_50 : decode cX6_errorOf 50 = .ok (.iaload, 1) := by decide +kernel
theorem dX6_errorOf_51 : decode cX6_errorOf 51 = .ok (.iload 6, 2) := by decide +kernel
theorem dX6_errorOf_53 : decode cX6_errorOf 53 = .ok (.iconst 0, 1) := by decide +kernel
theorem dX6_errorOf_54 : decode cX6_errorOf 54 = .ok (.invokevirtual 160, 3) := by decide +kernel
theorem dX6_errorOf_57 : decode cX6_errorOf 57 = .ok (.istore 7, 2) := by decide +kernel
theorem dX6_errorOf_59 : decode cX6_errorOf 59 = .ok (.iconst 1, 1) := by decide +kernel
theorem dX6_errorOf_60 : decode cX6_errorOf 60 = .ok (.istore 8, 2) := by decide +kernel
theorem dX6_errorOf_62 : decode cX6_errorOf 62 = .ok (.iload 8, 2) := by decide +kernel
theorem dX6_errorOf_64 : decode cX6_errorOf 64 = .ok (.iload 5, 2) := by decide +kernel
theorem dX6_errorOf_66 : decode cX6_errorOf 66 = .ok (.if_icmp .gt 59, 3) := by decide +kernel
theorem dX6_errorOf_69 : decode cX6_errorOf 69 = .ok (.aload_n 0, 1) := by decide +kernel
theorem dX6_errorOf_70 : decode cX6_errorOf 70 = .ok (.aload_n 0, 1) := by decide +kernel
theorem dX6_errorOf_71 : decode cX6_errorOf 71 = .ok (.getfield 60, 3) := by decide +kernel
theorem dX6_errorOf_74 : decode cX6_errorOf 74 = .ok (.iload_n 1, 1) := by decide +kernel
theorem dX6_errorOf_75 : decode cX6_errorOf 75 = .ok (.iaload, 1) := by decide +kernel
theorem dX6_errorOf_76 : decode cX6_errorOf 76 = .ok (.iload 6, 2) := by decide +kernel
theorem dX6_errorOf_78 : decode cX6_errorOf 78 = .ok (.iload 8, 2) := by decide +kernel
theorem dX6_errorOf_80 : decode cX6_errorOf 80 = .ok (.invokevirtual 160, 3) := by decide +kernel
theorem dX6_errorOf_83 : decode cX6_errorOf 83 = .ok (.iload 8, 2) := by decide +kernel
theorem dX6_errorOf_85 : decode cX6_errorOf 85 = .ok (.isub, 1) := by decide +kernel
theorem dX6_errorOf_86 : decode cX6_errorOf 86 = .ok (.istore 9, 2) := by decide +kernel
theorem dX6_errorOf_88 : decode cX6_errorOf 88 = .ok (.iload 4, 2) := by decide +kernel
theorem dX6_errorOf_90 : decode cX6_errorOf 90 = .ok (.ifCond .eq 13, 3) := by decide +kernel
theorem dX6_errorOf_93 : decode cX6_errorOf 93 = .ok (.iload 9, 2) := by decide +kernel
theorem dX6_errorOf_95 : decode cX6_errorOf 95 = .ok (.iload 7, 2) := by decide +kernel
theorem dX6_errorOf_97 : decode cX6_errorOf 97 = .ok (.if_icmp .le 18, 3) := by decide +kernel
theorem dX6_errorOf_100 : decode cX6_errorOf 100 = .ok (.goto 10, 3) := by decide +kernel
theorem dX6_errorOf_103 : decode cX6_errorOf 103 = .ok (.iload 9, 2) := by decide +kernel
theorem dX6_errorOf_105 : decode cX6_errorOf 105 = .ok (.iload 7, 2) := by decide +kernel
theorem dX6_errorOf_107 : decode cX6_errorOf 107 = .ok (.if_icmp .ge 8, 3) := by decide +kernel
theorem dX6_errorOf_110 : decode cX6_errorOf 110 = .ok (.iload 9, 2) := by decide +kernel
theorem dX6_errorOf_112 : decode cX6_errorOf 112 = .ok (.goto 5, 3) := by decide +kernel
theorem dX6_errorOf_115 : decode cX6_errorOf 115 = .ok (.iload 7, 2) := by decide +kernel
theorem dX6_errorOf_117 : decode cX6_errorOf 117 = .ok (.istore 7, 2) := by decide +kernel
theorem dX6_errorOf_119 : decode cX6_errorOf 119 = .ok (.iinc 8 1, 3) := by decide +kernel
theorem dX6_errorOf_122 : decode cX6_errorOf 122 = .ok (.goto (-60), 3) := by decide +kernel
theorem dX6_errorOf_125 : decode cX6_errorOf 125 = .ok (.iload 7, 2) := by decide +kernel
theorem dX6_errorOf_127 : decode cX6_errorOf 127 = .ok (.ireturn, 1) := by decide +kernel
set_option maxRecDepth 20000 in
theorem ggX6_bound_X6_isLayer : GoodIn wsX6_bound wsX6_isLayer := goodIn_r _ [8, 9, 10, 11, 7, 12, 34, 35, 36, 37, 38, 39, 40, 41, 42, 43, 44, 45, 46, 47, 48, 49, 50, 51, 52, 53, 54, 55, 56, 57, 58] (by decide +kernel) (by decide +kernel)
set_option maxRecDepth 20000 in
theorem gX6_bound_X6_isLayer : GoodIn wsX6_bound (wsV RX6 99 RX6 yX6_isLayer wsX6_isLayer) := goodIn_app (goodIn_of _ (by decide +kernel)) ggX6_bound_X6_isLayer
set_option maxRecDepth 20000 in
theorem ggX6_bound_X6_in : GoodIn wsX6_bound wsX6_in := goodIn_r _ [12] (by decide +kernel) (by decide +kernel)
set_option maxRecDepth 20000 in
theorem gX6_bound_X6_in : GoodIn wsX6_bound (va_wsS RX6 81 yX6_in wsX6_in) := goodIn_app (goodIn_of _ (by decide +kernel)) ggX6_bound_X6_in
set_option maxRecDepth 20000 in
theorem ggX6_bound_X6_errorOf : GoodIn wsX6_bound wsX6_errorOf := goodIn_r _ [16, 17, 2, 18, 19, 20, 7, 21, 22, 23, 24, 25, 26, 27, 28, 29, 30, 31, 32, 33, 34, 35, 36, 37, 38, 39, 40, 41, 42, 43, 44, 45, 46, 47, 48, 49, 50, 51, 52, 53, 54, 55, 56, 57, 58] (by decide +kernel) (by decide +kernel)
set_option maxRecDepth 20000 in
theorem gX6_bound_X6_errorOf : GoodIn wsX6_bound (wsV RX6 170 RX6 yX6_errorOf wsX6_errorOf) := goodIn_app (goodIn_of _ (by decide +kernel)) ggX6_bound_X6_errorOf
theorem dX6_bound_0 : decode cX6_bound 0 = .ok (.aload_n 0, 1) := by decide +kernel
theorem dX6_bound_1 : decode cX6_bound 1 = .ok (.aload_n 0, 1) := by decide +kernel
theorem dX6_bound_2 : decode cX6_bound 2 = .ok (.iload_n 1, 1) := by decide +kernel
theorem dX6_bound_3 : decode cX6_bound 3 = .ok (.invokevirtual 99, 3) := by decide +kernel
theorem dX6_bound_6 : decode cX6_bound 6 = .ok (.ifCond .eq 19, 3) := by decide +kernel
theorem dX6_bound_9 : decode cX6_bound 9 = .ok (.iload_n 2, 1) := by decide +kernel
theorem dX6_bound_10 : decode cX6_bound 10 = .ok (.iconst 0, 1) := by decide +kernel
theorem dX6_bound_11 : decode cX6_bound 11 = .ok (.aload_n 0, 1) := by decide +kernel
theorem dX6_bound_12 : decode cX6_bound 12 = .ok (.getfield 48, 3) := by decide +kernel
theorem dX6_bound_15 : decode cX6_bound 15 = .ok (.iload_n 1, 1) := by decide +kernel
theorem dX6_bound_16 : decode cX6_bound 16 = .ok (.iaload, 1) := by decide +kernel
theorem dX6_bound_17 : decode cX6_bound 17 = .ok (.iconst 1, 1) := by decide +kernel
theorem dX6_bound_18 : decode cX6_bound 18 = .ok (.isub, 1) := by decide +kernel
theorem dX6_bound_19 : decode cX6_bound 19 = .ok (.invokestatic 81, 3) := by decide +kernel
theorem dX6_bound_22 : decode cX6_bound 22 = .ok (.ifCond .ne 7, 3) := by decide +kernel
theorem dX6_bound_25 : decode cX6_bound 25 = .ok (.iconst 1, 1) := by decide +kernel
theorem dX6_bound_26 : decode cX6_bound 26 = .ok (.goto 18, 3) := by decide +kernel
theorem dX6_bound_29 : decode cX6_bound 29 = .ok (.aload_n 0, 1) := by decide +kernel
theorem dX6_bound_30 : decode cX6_bound 30 = .ok (.getfield 60, 3) := by decide +kernel
theorem dX6_bound_33 : decode cX6_bound 33 = .ok (.iload_n 1, 1) := by decide +kernel
theorem dX6_bound_34 : decode cX6_bound 34 = .ok (.iaload, 1) := by decide +kernel
theorem dX6_bound_35 : decode cX6_bound 35 = .ok (.iconst (-1), 1) := by decide +kernel
theorem dX6_bound_36 : decode cX6_bound 36 = .ok (.if_icmp .ne 7, 3) := by decide +kernel
theorem dX6_bound_39 : decode cX6_bound 39 = .ok (.iconst 2, 1) := by decide +kernel
theorem dX6_bound_40 : decode cX6_bound 40 = .ok (.goto 4, 3) := by decide +kernel
theorem dX6_bound_43 : decode cX6_bound 43 = .ok (.iconst 0, 1) := by decide +kernel
theorem dX6_bound_44 : decode cX6_bound 44 = .ok (.putfield 75, 3) := by decide +kernel
theorem dX6_bound_47 : decode cX6_bound 47 = .ok (.aload_n 0, 1) := by decide +kernel
theorem dX6_bound_48 : decode cX6_bound 48 = .ok (.getfield 75, 3) := by decide +kernel
theorem dX6_bound_51 : decode cX6_bound 51 = .ok (.ifCond .le 5, 3) := by decide +kernel
theorem dX6_bound_54 : decode cX6_bound 54 = .ok (.iconst 0, 1) := by decide +kernel
theorem dX6_bound_55 : decode cX6_bound 55 = .ok (.ireturn, 1) := by decide +kernel
theorem dX6_bound_56 : decode cX6_bound 56 = .ok (.aload_n 0, 1) := by decide +kernel
theorem dX6_bound_57 : decode cX6_bound 57 = .ok (.iload_n 1, 1) := by decide +kernel
theorem dX6_bound_58 : decode cX6_bound 58 = .ok (.iload_n 2, 1) := by decide +kernel
theorem dX6_bound_59 : decode cX6_bound 59 = .ok (.iconst 0, 1) := by decide +kernel
theorem dX6_bound_60 : decode cX6_bound 60 = .ok (.iload_n 3, 1) := by decide +kernel
theorem dX6_bound_61 : decode cX6_bound 61 = .ok (.invokevirtual 170, 3) := by decide +kernel
theorem dX6_bound_64 : decode cX6_bound 64 = .ok (.bipush 16, 2) := by decide +kernel
theorem dX6_bound_66 : decode cX6_bound 66 = .ok (.aload_n 0, 1) := by decide +kernel
theorem dX6_bound_67 : decode cX6_bound 67 = .ok (.iload_n 1, 1) := by decide +kernel
theorem dX6_bound_68 : decode cX6_bound 68 = .ok (.iload_n 2, 1) := by decide +kernel
theorem dX6_bound_69 : decode cX6_bound 69 = .ok (.iconst 1, 1) := by decide +kernel
theorem dX6_bound_70 : decode cX6_bound 70 = .ok (.iload_n 3, 1) := by decide +kernel
theorem dX6_bound_71 : decode cX6_bound 71 = .ok (.invokevirtual 170, 3) := by decide +kernel
theorem dX6_bound_74 : decode cX6_bound 74 = .ok (.imul, 1) := by decide +kernel
theorem dX6_bound_75 : decode cX6_bound 75 = .ok (.iadd, 1) := by decide +kernel
theorem dX6_bound_76 : decode cX6_bound 76 = .ok (.istore 4, 2) := by decide +kernel
theorem dX6_bound_78 : decode cX6_bound 78 = .ok (.aload_n 0, 1) := by decide +kernel
theorem dX6_bound_79 : decode cX6_bound 79 = .ok (.iload_n 1, 1) := by decide +kernel
theorem dX6_bound_80 : decode cX6_bound 80 = .ok (.iload_n 2, 1) := by decide +kernel
theorem dX6_bound_81 : decode cX6_bound 81 = .ok (.iconst 2, 1) := by decide +kernel
theorem dX6_bound_82 : decode cX6_bound 82 = .ok (.iload_n 3, 1) := by decide +kernel
theorem dX6_bound_83 : decode cX6_bound 83 = .ok (.ifCond .ne 7, 3) := by decide +kernel
theorem dX6_bound_86 : decode cX6_bound 86 = .ok (.iconst 1, 1) := by decide +kernel
theorem dX6_bound_87 : decode cX6_bound 87 = .ok (.goto 4, 3) := by decide +kernel
theorem dX6_bound_90 : decode cX6_bound 90 = .ok (.iconst 0, 1) := by decide +kernel
theorem dX6_bound_91 : decode cX6_bound 91 = .ok (.invokevirtual 170, 3) := by decide +kernel
theorem dX6_bound_94 : decode cX6_bound 94 = .ok (.bipush 16, 2) := by decide +kernel
theorem dX6_bound_96 : decode cX6_bound 96 = .ok (.aload_n 0, 1) := by decide +kernel
theorem dX6_bound_97 : decode cX6_bound 97 = .ok (.iload_n 1, 1) := by decide +kernel
theorem dX6_bound_98 : decode cX6_bound 98 = .ok (.iload_n 2, 1) := by decide +kernel
theorem dX6_bound_99 : decode cX6_bound 99 = .ok (.iconst 3, 1) := by decide +kernel
theorem dX6_bound_100 : decode cX6_bound 100 = .ok (.iload_n 3, 1) := by decide +kernel
theorem dX6_bound_101 : decode cX6_bound 101 = .ok (.ifCond .ne 7, 3) := by decide +kernel
theorem dX6_bound_104 : decode cX6_bound 104 = .ok (.iconst 1, 1) := by decide +kernel
theorem dX6_bound_105 : decode cX6_bound 105 = .ok (.goto 4, 3) := by decide +kernel
theorem dX6_bound_108 : decode cX6_bound 108 = .ok (.iconst 0, 1) := by decide +kernel
theorem dX6_bound_109 : decode cX6_bound 109 = .ok (.invokevirtual 170, 3) := by decide +kernel
theorem dX6_bound_112 : decode cX6_bound 112 = .ok (.imul, 1) := by decide +kernel
theorem dX6_bound_113 : decode cX6_bound 113 = .ok (.iadd, 1) := by decide +kernel
theorem dX6_bound_114 : decode cX6_bound 114 = .ok (.istore 5, 2) := by decide +kernel
theorem dX6_bound_116 : decode cX6_bound 116 = .ok (.sipush 255, 3) := by decide +kernel
theorem dX6_bound_119 : decode cX6_bound 119 = .ok (.iload 4, 2) := by decide +kernel
theorem dX6_bound_121 : decode cX6_bound 121 = .ok (.iload 5, 2) := by decide +kernel
theorem dX6_bound_123 : decode cX6_bound 123 = .ok (.isub, 1) := by decide +kernel
theorem dX6_bound_124 : decode cX6_bound 124 = .ok (.imul, 1) := by decide +kernel
theorem dX6_bound_125 : decode cX6_bound 125 = .ok (.ireturn, 1) := by decide +kernel
theorem dX6_isChainPlaced_0 : decode cX6_isChainPlaced 0 = .ok (.iconst 1, 1) := by decide +kernel
theorem dX6_isChainPlaced_1 : decode cX6_isChainPlaced 1 = .ok (.istore_n 2, 1) := by decide +kernel
theorem dX6_isChainPlaced_2 : decode cX6_isChainPlaced 2 = .ok (.iload_n 1, 1) := by decide +kernel
theorem dX6_isChainPlaced_3 : decode cX6_isChainPlaced 3 = .ok (.istore_n 3, 1) := by decide +kernel
theorem dX6_isChainPlaced_4 : decode cX6_isChainPlaced 4 = .ok (.iload_n 3, 1) := by decide +kernel
theorem dX6_isChainPlaced_5 : decode cX6_isChainPlaced 5 = .ok (.iconst (-1), 1) := by decide +kernel
theorem dX6_isChainPlaced_6 : decode cX6_isChainPlaced 6 = .ok (.if_icmp .eq 33, 3) := by decide +kernel
theorem dX6_isChainPlaced_9 : decode cX6_isChainPlaced 9 = .ok (.iload_n 2, 1) := by decide +kernel
theorem dX6_isChainPlaced_10 : decode cX6_isChainPlaced 10 = .ok (.ifCond .eq 17, 3) := by decide +kernel
theorem dX6_isChainPlaced_13 : decode cX6_isChainPlaced 13 = .ok (.aload_n 0, 1) := by decide +kernel
theorem dX6_isChainPlaced_14 : decode cX6_isChainPlaced 14 = .ok (.getfield 60, 3) := by decide +kernel
theorem dX6_isChainPlaced_17 : decode cX6_isChainPlaced 17 = .ok (.iload_n 3, 1) := by decide +kernel
theorem dX6_isChainPlaced_18 : decode cX6_isChainPlaced 18 = .ok (.iaload, 1) := by decide +kernel
theorem dX6_isChainPlaced_19 : decode cX6_isChainPlaced 19 = .ok (.iconst (-1), 1) := by decide +kernel
theorem dX6_isChainPlaced_20 : decode cX6_isChainPlaced 20 = .ok (.if_icmp .eq 7, 3) := by decide +kernel
theorem dX6_isChainPlaced_23 : decode cX6_isChainPlaced 23 = .ok (.iconst 1, 1) := by decide +kernel
theorem dX6_isChainPlaced_24 : decode cX6_isChainPlaced 24 = .ok (.goto 4, 3) := by decide +kernel
theorem dX6_isChainPlaced_27 : decode cX6_isChainPlaced 27 = .ok (.iconst 0, 1) := by decide +kernel
theorem dX6_isChainPlaced_28 : decode cX6_isChainPlaced 28 = .ok (.istore_n 2, 1) := by decide +kernel
theorem dX6_isChainPlaced_29 : decode cX6_isChainPlaced 29 = .ok (.aload_n 0, 1) := by decide +kernel
theorem dX6_isChainPlaced_30 : decode cX6_isChainPlaced 30 = .ok (.getfield 57, 3) := by decide +kernel
theorem dX6_isChainPlaced_33 : decode cX6_isChainPlaced 33 = .ok (.iload_n 3, 1) := by decide +kernel
theorem dX6_isChainPlaced_34 : decode cX6_isChainPlaced 34 = .ok (.iaload, 1) := by decide +kernel
theorem dX6_isChainPlaced_35 : decode cX6_isChainPlaced 35 = .ok (.istore_n 3, 1) := by decide +kernel
theorem dX6_isChainPlaced_36 : decode cX6_isChainPlaced 36 = .ok (.goto (-32), 3) := by decide +kernel
theorem dX6_isChainPlaced_39 : decode cX6_isChainPlaced 39 = .ok (.iload_n 2, 1) := by decide +kernel
theorem dX6_isChainPlaced_40 : decode cX6_isChainPlaced 40 = .ok (.ireturn, 1) := by decide +kernel
set_option maxRecDepth 20000 in
theorem ggX6_runs_X6_idealOf : GoodIn wsX6_runs wsX6_idealOf := goodIn_r _ [8, 9, 10, 11, 12, 7, 13, 14, 15, 16, 17, 44, 45, 46, 47, 48, 49, 50, 51, 52, 53, 54, 55, 56, 57, 58, 59, 60, 61, 62, 63, 64, 65, 66, 67, 68] (by decide +kernel) (by decide +kernel)
set_option maxRecDepth 20000 in
theorem gX6_runs_X6_idealOf : GoodIn wsX6_runs (wsV RX6 167 RX6 yX6_idealOf wsX6_idealOf) := goodIn_app (goodIn_of _ (by decide +kernel)) ggX6_runs_X6_idealOf
set_option maxRecDepth 20000 in
theorem ggX6_runs_X6_answerOf : GoodIn wsX6_runs wsX6_answerOf := goodIn_r _ [21, 22, 9, 23, 14, 15, 7, 16, 17, 24, 25, 26, 27, 28, 29, 30, 31, 32, 33, 34, 35, 36, 37, 38, 39, 40, 41, 42, 43, 44, 45, 46, 47, 48, 49, 50, 51, 52, 53, 54, 55, 56, 57, 58, 59, 60, 61, 62, 63, 64, 65, 66, 67, 68] (by decide +kernel) (by decide +kernel)
set_option maxRecDepth 20000 in
theorem gX6_runs_X6_answerOf : GoodIn wsX6_runs (wsV RX6 163 RX6 yX6_answerOf wsX6_answerOf) := goodIn_app (goodIn_of _ (by decide +kernel)) ggX6_runs_X6_answerOf
theorem dX6_runs_0 : decode cX6_runs 0 = .ok (.lload_n 2, 1) := by decide +kernel
theorem dX6_runs_1 : decode cX6_runs 1 = .ok (.lstore 5, 2) := by decide +kernel
theorem dX6_runs_3 : decode cX6_runs 3 = .ok (.iload_n 1, 1) := by decide +kernel
theorem dX6_runs_4 : decode cX6_runs 4 = .ok (.istore 7, 2) := by decide +kernel
theorem dX6_runs_6 : decode cX6_runs 6 = .ok (.iload 7, 2) := by decide +kernel
theorem dX6_runs_8 : decode cX6_runs 8 = .ok (.iconst (-1), 1) := by decide +kernel
theorem dX6_runs_9 : decode cX6_runs 9 = .ok (.if_icmp .eq 126, 3) := by decide +kernel
theorem dX6_runs_12 : decode cX6_runs 12 = .ok (.lconst 0, 1) := by decide +kernel
theorem dX6_runs_13 : decode cX6_runs 13 = .ok (.lstore 8, 2) := by decide +kernel
theorem dX6_runs_15 : decode cX6_runs 15 = .ok (.iconst 0, 1) := by decide +kernel
theorem dX6_runs_16 : decode cX6_runs 16 = .ok (.istore 10, 2) := by decide +kernel
theorem dX6_runs_18 : decode cX6_runs 18 = .ok (.iload 10, 2) := by decide +kernel
theorem dX6_runs_20 : decode cX6_runs 20 = .ok (.aload_n 0, 1) := by decide +kernel
theorem dX6_runs_21 : decode cX6_runs 21 = .ok (.getfield 48, 3) := by decide +kernel
theorem dX6_runs_24 : decode cX6_runs 24 = .ok (.iload 7, 2) := by decide +kernel
theorem dX6_runs_26 : decode cX6_runs 26 = .ok (.iaload, 1) := by decide +kernel
theorem dX6_runs_27 : decode cX6_runs 27 = .ok (.if_icmp .ge 92, 3) := by decide +kernel
theorem dX6_runs_30 : decode cX6_runs 30 = .ok (.iload 4, 2) := by decide +kernel
theorem dX6_runs_32 : decode cX6_runs 32 = .ok (.ifCond .eq 16, 3) := by decide +kernel
theorem dX6_runs_35 : decode cX6_runs 35 = .ok (.aload_n 0, 1) := by decide +kernel
theorem dX6_runs_36 : decode cX6_runs 36 = .ok (.iload 7, 2) := by decide +kernel
theorem dX6_runs_38 : decode cX6_runs 38 = .ok (.lload 5, 2) := by decide +kernel
theorem dX6_runs_40 : decode cX6_runs 40 = .ok (.iload 10, 2) := by decide +kernel
theorem dX6_runs_42 : decode cX6_runs 42 = .ok (.invokevirtual 167, 3) := by decide +kernel
theorem dX6_runs_45 : decode cX6_runs 45 = .ok (.goto 13, 3) := by decide +kernel
theorem dX6_runs_48 : decode cX6_runs 48 = .ok (.aload_n 0, 1) := by decide +kernel
theorem dX6_runs_49 : decode cX6_runs 49 = .ok (.iload 7, 2) := by decide +kernel
theorem dX6_runs_51 : decode cX6_runs 51 = .ok (.lload 5, 2) := by decide +kernel
theorem dX6_runs_53 : decode cX6_runs 53 = .ok (.iload 10, 2) := by decide +kernel
theorem dX6_runs_55 : decode cX6_runs 55 = .ok (.invokevirtual 163, 3) := by decide +kernel
theorem dX6_runs_58 : decode cX6_runs 58 = .ok (.istore 11, 2) := by decide +kernel
theorem dX6_runs_60 : decode cX6_runs 60 = .ok (.iload 11, 2) := by decide +kernel
theorem dX6_runs_62 : decode cX6_runs 62 = .ok (.aload_n 0, 1) := by decide +kernel
theorem dX6_runs_63 : decode cX6_runs 63 = .ok (.getfield 54, 3) := by decide +kernel
theorem dX6_runs_66 : decode cX6_runs 66 = .ok (.iload 7, 2) := by decide +kernel
theorem dX6_runs_68 : decode cX6_runs 68 = .ok (.iaload, 1) := by decide +kernel
theorem dX6_runs_69 : decode cX6_runs 69 = .ok (.ishr, 1) := by decide +kernel
theorem dX6_runs_70 : decode cX6_runs 70 = .ok (.istore 11, 2) := by decide +kernel
theorem dX6_runs_72 : decode cX6_runs 72 = .ok (.iload 11, 2) := by decide +kernel
theorem dX6_runs_74 : decode cX6_runs 74 = .ok (.ifCond .ge 7, 3) := by decide +kernel
theorem dX6_runs_77 : decode cX6_runs 77 = .ok (.iconst 0, 1) := by decide +kernel
theorem dX6_runs_78 : decode cX6_runs 78 = .ok (.goto 19, 3) := by decide +kernel
theorem dX6_runs_81 : decode cX6_runs 81 = .ok (.iload 11, 2) := by decide +kernel
theorem dX6_runs_83 : decode cX6_runs 83 = .ok (.sipush 255, 3) := by decide +kernel
theorem dX6_runs_86 : decode cX6_runs 86 = .ok (.if_icmp .le 9, 3) := by decide +kernel
theorem dX6_runs_89 : decode cX6_runs 89 = .ok (.sipush 255, 3) := by decide +kernel
theorem dX6_runs_92 : decode cX6_runs 92 = .ok (.goto 5, 3) := by decide +kernel
theorem dX6_runs_95 : decode cX6_runs 95 = .ok (.iload 11, 2) := by decide +kernel
theorem dX6_runs_97 : decode cX6_runs 97 = .ok (.istore 11, 2) := by decide +kernel
theorem dX6_runs_99 : decode cX6_runs 99 = .ok (.lload 8, 2) := by decide +kernel
theorem dX6_runs_101 : decode cX6_runs 101 = .ok (.iload 11, 2) := by decide +kernel
theorem dX6_runs_103 : decode cX6_runs 103 = .ok (.i2l, 1) := by decide +kernel
theorem dX6_runs_104 : decode cX6_runs 104 = .ok (.bipush 8, 2) := by decide +kernel
theorem dX6_runs_106 : decode cX6_runs 106 = .ok (.iload 10, 2) := by decide +kernel
theorem dX6_runs_108 : decode cX6_runs 108 = .ok (.imul, 1) := by decide +kernel
theorem dX6_runs_109 : decode cX6_runs 109 = .ok (.lshl, 1) := by decide +kernel
theorem dX6_runs_110 : decode cX6_runs 110 = .ok (.lor, 1) := by decide +kernel
theorem dX6_runs_111 : decode cX6_runs 111 = .ok (.lstore 8, 2) := by decide +kernel
theorem dX6_runs_113 : decode cX6_runs 113 = .ok (.iinc 10 1, 3) := by decide +kernel
theorem dX6_runs_116 : decode cX6_runs 116 = .ok (.goto (-98), 3) := by decide +kernel
theorem dX6_runs_119 : decode cX6_runs 119 = .ok (.lload 8, 2) := by decide +kernel
theorem dX6_runs_121 : decode cX6_runs 121 = .ok (.lstore 5, 2) := by decide +kernel
theorem dX6_runs_123 : decode cX6_runs 123 = .ok (.aload_n 0, 1) := by decide +kernel
theorem dX6_runs_124 : decode cX6_runs 124 = .ok (.getfield 57, 3) := by decide +kernel
theorem dX6_runs_127 : decode cX6_runs 127 = .ok (.iload 7, 2) := by decide +kernel
theorem dX6_runs_129 : decode cX6_runs 129 = .ok (.iaload, 1) := by decide +kernel
theorem dX6_runs_130 : decode cX6_runs 130 = .ok (.istore 7, 2) := by decide +kernel
theorem dX6_runs_132 : decode cX6_runs 132 = .ok (.goto (-126), 3) := by decide +kernel
theorem dX6_runs_135 : decode cX6_runs 135 = .ok (.lload 5, 2) := by decide +kernel
theorem dX6_runs_137 : decode cX6_runs 137 = .ok (.lreturn, 1) := by decide +kernel
set_option maxRecDepth 20000 in
theorem ggX6_run_X6_isLayer : GoodIn wsX6_run wsX6_isLayer := goodIn_r _ [6, 7, 8, 9, 5, 10, 61, 62, 63, 64, 65, 66, 67, 68, 69, 70, 71, 72, 73, 74, 75, 76, 77, 78, 79, 80, 81, 82, 83, 84, 85] (by decide +kernel) (by decide +kernel)
set_option maxRecDepth 20000 in
theorem gX6_run_X6_isLayer : GoodIn wsX6_run (wsV RX6 99 RX6 yX6_isLayer wsX6_isLayer) := goodIn_app (goodIn_of _ (by decide +kernel)) ggX6_run_X6_isLayer
set_option maxRecDepth 20000 in
theorem ggX6_run_X6_isChainPlaced : GoodIn wsX6_run wsX6_isChainPlaced := goodIn_r _ [14, 15, 16, 61, 62, 63, 64, 65, 66, 67, 68, 69, 70, 71, 72, 73, 74, 75, 76, 77, 78, 79, 80, 81, 82, 83, 84, 85] (by decide +kernel) (by decide +kernel)
set_option maxRecDepth 20000 in
theorem gX6_run_X6_isChainPlaced : GoodIn wsX6_run (wsV RX6 174 RX6 yX6_isChainPlaced wsX6_isChainPlaced) := goodIn_app (goodIn_of _ (by decide +kernel)) ggX6_run_X6_isChainPlaced
set_option maxRecDepth 20000 in
theorem ggX6_run_X6_runs : GoodIn wsX6_run wsX6_runs := goodIn_r _ [20, 21, 22, 16, 23, 24, 25, 5, 26, 27, 28, 29, 30, 31, 32, 33, 34, 35, 36, 37, 38, 39, 15, 40, 41, 42, 43, 44, 45, 46, 47, 48, 49, 50, 51, 52, 53, 54, 55, 56, 57, 58, 59, 60, 61, 62, 63, 64, 65, 66, 67, 68, 69, 70, 71, 72, 73, 74, 75, 76, 77, 78, 79, 80, 81, 82, 83, 84, 85] (by decide +kernel) (by decide +kernel)
set_option maxRecDepth 20000 in
theorem gX6_run_X6_runs : GoodIn wsX6_run (wsV RX6 177 RX6 yX6_runs wsX6_runs) := goodIn_app (goodIn_of _ (by decide +kernel)) ggX6_run_X6_runs
theorem dX6_run_0 : decode cX6_run 0 = .ok (.aload_n 0, 1) := by decide +kernel
theorem dX6_run_1 : decode cX6_run 1 = .ok (.aload_n 0, 1) := by decide +kernel
theorem dX6_run_2 : decode cX6_run 2 = .ok (.iload_n 1, 1) := by decide +kernel
theorem dX6_run_3 : decode cX6_run 3 = .ok (.invokevirtual 99, 3) := by decide +kernel
theorem dX6_run_6 : decode cX6_run 6 = .ok (.ifCond .ne 7, 3) := by decide +kernel
theorem dX6_run_9 : decode cX6_run 9 = .ok (.iconst 1, 1) := by decide +kernel
theorem dX6_run_10 : decode cX6_run 10 = .ok (.goto 16, 3) := by decide +kernel
theorem dX6_run_13 : decode cX6_run 13 = .ok (.aload_n 0, 1) := by decide +kernel
theorem dX6_run_14 : decode cX6_run 14 = .ok (.iload_n 1, 1) := by decide +kernel
theorem dX6_run_15 : decode cX6_run 15 = .ok (.invokevirtual 174, 3) := by decide +kernel
theorem dX6_run_18 : decode cX6_run 18 = .ok (.ifCond .eq 7, 3) := by decide +kernel
theorem dX6_run_21 : decode cX6_run 21 = .ok (.iconst 0, 1) := by decide +kernel
theorem dX6_run_22 : decode cX6_run 22 = .ok (.goto 4, 3) := by decide +kernel
theorem dX6_run_25 : decode cX6_run 25 = .ok (.iconst 2, 1) := by decide +kernel
theorem dX6_run_26 : decode cX6_run 26 = .ok (.putfield 75, 3) := by decide +kernel
theorem dX6_run_29 : decode cX6_run 29 = .ok (.aload_n 0, 1) := by decide +kernel
theorem dX6_run_30 : decode cX6_run 30 = .ok (.getfield 75, 3) := by decide +kernel
theorem dX6_run_33 : decode cX6_run 33 = .ok (.ifCond .le 7, 3) := by decide +kernel
theorem dX6_run_36 : decode cX6_run 36 = .ok (.lconst 0, 1) := by decide +kernel
theorem dX6_run_37 : decode cX6_run 37 = .ok (.goto 10, 3) := by decide +kernel
theorem dX6_run_40 : decode cX6_run 40 = .ok (.aload_n 0, 1) := by decide +kernel
theorem dX6_run_41 : decode cX6_run 41 = .ok (.iload_n 1, 1) := by decide +kernel
theorem dX6_run_42 : decode cX6_run 42 = .ok (.lload_n 2, 1) := by decide +kernel
theorem dX6_run_43 : decode cX6_run 43 = .ok (.iconst 0, 1) := by decide +kernel
theorem dX6_run_44 : decode cX6_run 44 = .ok (.invokevirtual 177, 3) := by decide +kernel
theorem dX6_run_47 : decode cX6_run 47 = .ok (.lreturn, 1) := by decide +kernel
set_option maxRecDepth 20000 in
theorem ggX6_runIdeal_X6_isLayer : GoodIn wsX6_runIdeal wsX6_isLayer := goodIn_r _ [6, 7, 8, 9, 5, 10, 57, 58, 59, 60, 61, 62, 63, 64, 65, 66, 67, 68, 69, 70, 71, 72, 73, 74, 75, 76, 77, 78, 79, 80, 81] (by decide +kernel) (by decide +kernel)
set_option maxRecDepth 20000 in
theorem gX6_runIdeal_X6_isLayer : GoodIn wsX6_runIdeal (wsV RX6 99 RX6 yX6_isLayer wsX6_isLayer) := goodIn_app (goodIn_of _ (by decide +kernel)) ggX6_runIdeal_X6_isLayer
set_option maxRecDepth 20000 in
theorem ggX6_runIdeal_X6_runs : GoodIn wsX6_runIdeal wsX6_runs := goodIn_r _ [14, 15, 16, 17, 18, 19, 20, 5, 21, 22, 23, 24, 25, 26, 27, 28, 29, 30, 31, 32, 33, 34, 35, 36, 37, 38, 39, 40, 41, 42, 43, 44, 45, 46, 47, 48, 49, 50, 51, 52, 53, 54, 55, 56, 57, 58, 59, 60, 61, 62, 63, 64, 65, 66, 67, 68, 69, 70, 71, 72, 73, 74, 75, 76, 77, 78, 79, 80, 81] (by decide +kernel) (by decide +kernel)
set_option maxRecDepth 20000 in
theorem gX6_runIdeal_X6_runs : GoodIn wsX6_runIdeal (wsV RX6 177 RX6 yX6_runs wsX6_runs) := goodIn_app (goodIn_of _ (by decide +kernel)) ggX6_runIdeal_X6_runs
theorem dX6_runIdeal_0 : decode cX6_runIdeal 0 = .ok (.aload_n 0, 1) := by decide +kernel
theorem dX6_runIdeal_1 : decode cX6_runIdeal 1 = .ok (.aload_n 0, 1) := by decide +kernel
theorem dX6_runIdeal_2 : decode cX6_runIdeal 2 = .ok (.iload_n 1, 1) := by decide +kernel
theorem dX6_runIdeal_3 : decode cX6_runIdeal 3 = .ok (.invokevirtual 99, 3) := by decide +kernel
theorem dX6_runIdeal_6 : decode cX6_runIdeal 6 = .ok (.ifCond .eq 7, 3) := by decide +kernel
theorem dX6_runIdeal_9 : decode cX6_runIdeal 9 = .ok (.iconst 0, 1) := by decide +kernel
theorem dX6_runIdeal_10 : decode cX6_runIdeal 10 = .ok (.goto 4, 3) := by decide +kernel
theorem dX6_runIdeal_13 : decode cX6_runIdeal 13 = .ok (.iconst 1, 1) := by decide +kernel
theorem dX6_runIdeal_14 : decode cX6_runIdeal 14 = .ok (.putfield 75, 3) := by decide +kernel
theorem dX6_runIdeal_17 : decode cX6_runIdeal 17 = .ok (.aload_n 0, 1) := by decide +kernel
theorem dX6_runIdeal_18 : decode cX6_runIdeal 18 = .ok (.getfield 75, 3) := by decide +kernel
theorem dX6_runIdeal_21 : decode cX6_runIdeal 21 = .ok (.ifCond .le 7, 3) := by decide +kernel
theorem dX6_runIdeal_24 : decode cX6_runIdeal 24 = .ok (.lconst 0, 1) := by decide +kernel
theorem dX6_runIdeal_25 : decode cX6_runIdeal 25 = .ok (.goto 10, 3) := by decide +kernel
theorem dX6_runIdeal_28 : decode cX6_runIdeal 28 = .ok (.aload_n 0, 1) := by decide +kernel
theorem dX6_runIdeal_29 : decode cX6_runIdeal 29 = .ok (.iload_n 1, 1) := by decide +kernel
theorem dX6_runIdeal_30 : decode cX6_runIdeal 30 = .ok (.lload_n 2, 1) := by decide +kernel
theorem dX6_runIdeal_31 : decode cX6_runIdeal 31 = .ok (.iconst 1, 1) := by decide +kernel
theorem dX6_runIdeal_32 : decode cX6_runIdeal 32 = .ok (.invokevirtual 177, 3) := by decide +kernel
theorem dX6_runIdeal_35 : decode cX6_runIdeal 35 = .ok (.lreturn, 1) := by decide +kernel
theorem dX6_cyclesOf_0 : decode cX6_cyclesOf 0 = .ok (.aload_n 0, 1) := by decide +kernel
theorem dX6_cyclesOf_1 : decode cX6_cyclesOf 1 = .ok (.getfield 42, 3) := by decide +kernel
theorem dX6_cyclesOf_4 : decode cX6_cyclesOf 4 = .ok (.aload_n 0, 1) := by decide +kernel
theorem dX6_cyclesOf_5 : decode cX6_cyclesOf 5 = .ok (.getfield 60, 3) := by decide +kernel
theorem dX6_cyclesOf_8 : decode cX6_cyclesOf 8 = .ok (.iload_n 1, 1) := by decide +kernel
theorem dX6_cyclesOf_9 : decode cX6_cyclesOf 9 = .ok (.iaload, 1) := by decide +kernel
theorem dX6_cyclesOf_10 : decode cX6_cyclesOf 10 = .ok (.iaload, 1) := by decide +kernel
theorem dX6_cyclesOf_11 : decode cX6_cyclesOf 11 = .ok (.istore_n 2, 1) := by decide +kernel
theorem dX6_cyclesOf_12 : decode cX6_cyclesOf 12 = .ok (.bipush 8, 2) := by decide +kernel
theorem dX6_cyclesOf_14 : decode cX6_cyclesOf 14 = .ok (.iconst 4, 1) := by decide +kernel
theorem dX6_cyclesOf_15 : decode cX6_cyclesOf 15 = .ok (.aload_n 0, 1) := by decide +kernel
theorem dX6_cyclesOf_16 : decode cX6_cyclesOf 16 = .ok (.getfield 48, 3) := by decide +kernel
theorem dX6_cyclesOf_19 : decode cX6_cyclesOf 19 = .ok (.iload_n 1, 1) := by decide +kernel
theorem dX6_cyclesOf_20 : decode cX6_cyclesOf 20 = .ok (.iaload, 1) := by decide +kernel
theorem dX6_cyclesOf_21 : decode cX6_cyclesOf 21 = .ok (.imul, 1) := by decide +kernel
theorem dX6_cyclesOf_22 : decode cX6_cyclesOf 22 = .ok (.iload_n 2, 1) := by decide +kernel
theorem dX6_cyclesOf_23 : decode cX6_cyclesOf 23 = .ok (.iadd, 1) := by decide +kernel
theorem dX6_cyclesOf_24 : decode cX6_cyclesOf 24 = .ok (.iconst 1, 1) := by decide +kernel
theorem dX6_cyclesOf_25 : decode cX6_cyclesOf 25 = .ok (.isub, 1) := by decide +kernel
theorem dX6_cyclesOf_26 : decode cX6_cyclesOf 26 = .ok (.iload_n 2, 1) := by decide +kernel
theorem dX6_cyclesOf_27 : decode cX6_cyclesOf 27 = .ok (.idiv, 1) := by decide +kernel
theorem dX6_cyclesOf_28 : decode cX6_cyclesOf 28 = .ok (.imul, 1) := by decide +kernel
theorem dX6_cyclesOf_29 : decode cX6_cyclesOf 29 = .ok (.ireturn, 1) := by decide +kernel
set_option maxRecDepth 20000 in
theorem ggX6_pipes_X6_cyclesOf : GoodIn wsX6_pipes wsX6_cyclesOf := goodIn_r _ [7, 8, 9, 10, 11, 12, 13, 14, 15, 16, 17, 18, 19, 20, 21, 22, 23, 24, 25, 26, 27, 28, 29, 30, 31, 32, 33, 34, 35] (by decide +kernel) (by decide +kernel)
set_option maxRecDepth 20000 in
theorem gX6_pipes_X6_cyclesOf : GoodIn wsX6_pipes (wsV RX6 181 RX6 yX6_cyclesOf wsX6_cyclesOf) := goodIn_app (goodIn_of _ (by decide +kernel)) ggX6_pipes_X6_cyclesOf
theorem dX6_pipes_0 : decode cX6_pipes 0 = .ok (.iconst 0, 1) := by decide +kernel
theorem dX6_pipes_1 : decode cX6_pipes 1 = .ok (.istore_n 3, 1) := by decide +kernel
theorem dX6_pipes_2 : decode cX6_pipes 2 = .ok (.iload_n 3, 1) := by decide +kernel
theorem dX6_pipes_3 : decode cX6_pipes 3 = .ok (.bipush 6, 2) := by decide +kernel
theorem dX6_pipes_5 : decode cX6_pipes 5 = .ok (.if_icmp .ge 16, 3) := by decide +kernel
theorem dX6_pipes_8 : decode cX6_pipes 8 = .ok (.aload_n 0, 1) := by decide +kernel
theorem dX6_pipes_9 : decode cX6_pipes 9 = .ok (.getfield 72, 3) := by decide +kernel
theorem dX6_pipes_12 : decode cX6_pipes 12 = .ok (.iload_n 3, 1) := by decide +kernel
theorem dX6_pipes_13 : decode cX6_pipes 13 = .ok (.iconst 0, 1) := by decide +kernel
theorem dX6_pipes_14 : decode cX6_pipes 14 = .ok (.iastore, 1) := by decide +kernel
theorem dX6_pipes_15 : decode cX6_pipes 15 = .ok (.iinc 3 1, 3) := by decide +kernel
theorem dX6_pipes_18 : decode cX6_pipes 18 = .ok (.goto (-16), 3) := by decide +kernel
theorem dX6_pipes_21 : decode cX6_pipes 21 = .ok (.iconst 0, 1) := by decide +kernel
theorem dX6_pipes_22 : decode cX6_pipes 22 = .ok (.istore_n 3, 1) := by decide +kernel
theorem dX6_pipes_23 : decode cX6_pipes 23 = .ok (.iconst 0, 1) := by decide +kernel
theorem dX6_pipes_24 : decode cX6_pipes 24 = .ok (.istore 4, 2) := by decide +kernel
theorem dX6_pipes_26 : decode cX6_pipes 26 = .ok (.iload 4, 2) := by decide +kernel
theorem dX6_pipes_28 : decode cX6_pipes 28 = .ok (.iload_n 2, 1) := by decide +kernel
theorem dX6_pipes_29 : decode cX6_pipes 29 = .ok (.if_icmp .ge 92, 3) := by decide +kernel
theorem dX6_pipes_32 : decode cX6_pipes 32 = .ok (.aload_n 0, 1) := by decide +kernel
theorem dX6_pipes_33 : decode cX6_pipes 33 = .ok (.getfield 72, 3) := by decide +kernel
theorem dX6_pipes_36 : decode cX6_pipes 36 = .ok (.iload_n 1, 1) := by decide +kernel
theorem dX6_pipes_37 : decode cX6_pipes 37 = .ok (.iaload, 1) := by decide +kernel
theorem dX6_pipes_38 : decode cX6_pipes 38 = .ok (.istore_n 3, 1) := by decide +kernel
theorem dX6_pipes_39 : decode cX6_pipes 39 = .ok (.iload_n 1, 1) := by decide +kernel
theorem dX6_pipes_40 : decode cX6_pipes 40 = .ok (.istore 5, 2) := by decide +kernel
theorem dX6_pipes_42 : decode cX6_pipes 42 = .ok (.iload 5, 2) := by decide +kernel
theorem dX6_pipes_44 : decode cX6_pipes 44 = .ok (.iconst (-1), 1) := by decide +kernel
theorem dX6_pipes_45 : decode cX6_pipes 45 = .ok (.if_icmp .eq 70, 3) := by decide +kernel
theorem dX6_pipes_48 : decode cX6_pipes 48 = .ok (.iload_n 3, 1) := by decide +kernel
theorem dX6_pipes_49 : decode cX6_pipes 49 = .ok (.aload_n 0, 1) := by decide +kernel
theorem dX6_pipes_50 : decode cX6_pipes 50 = .ok (.iload 5, 2) := by decide +kernel
theorem dX6_pipes_52 : decode cX6_pipes 52 = .ok (.invokevirtual 181, 3) := by decide +kernel
theorem dX6_pipes_55 : decode cX6_pipes 55 = .ok (.iadd, 1) := by decide +kernel
theorem dX6_pipes_56 : decode cX6_pipes 56 = .ok (.istore_n 3, 1) := by decide +kernel
theorem dX6_pipes_57 : decode cX6_pipes 57 = .ok (.aload_n 0, 1) := by decide +kernel
theorem dX6_pipes_58 : decode cX6_pipes 58 = .ok (.getfield 57, 3) := by decide +kernel
theorem dX6_pipes_61 : decode cX6_pipes 61 = .ok (.iload 5, 2) := by decide +kernel
theorem dX6_pipes_63 : decode cX6_pipes 63 = .ok (.iaload, 1) := by decide +kernel
theorem dX6_pipes_64 : decode cX6_pipes 64 = .ok (.istore 6, 2) := by decide +kernel
theorem dX6_pipes_66 : decode cX6_pipes 66 = .ok (.iload 6, 2) := by decide +kernel
theorem dX6_pipes_68 : decode cX6_pipes 68 = .ok (.iconst (-1), 1) := by decide +kernel
theorem dX6_pipes_69 : decode cX6_pipes 69 = .ok (.if_icmp .eq 24, 3) := by decide +kernel
theorem dX6_pipes_72 : decode cX6_pipes 72 = .ok (.aload_n 0, 1) := by decide +kernel
theorem dX6_pipes_73 : decode cX6_pipes 73 = .ok (.getfield 72, 3) := by decide +kernel
theorem dX6_pipes_76 : decode cX6_pipes 76 = .ok (.iload 6, 2) := by decide +kernel
theorem dX6_pipes_78 : decode cX6_pipes 78 = .ok (.iaload, 1) := by decide +kernel
theorem dX6_pipes_79 : decode cX6_pipes 79 = .ok (.iload_n 3, 1) := by decide +kernel
theorem dX6_pipes_80 : decode cX6_pipes 80 = .ok (.if_icmp .le 13, 3) := by decide +kernel
theorem dX6_pipes_83 : decode cX6_pipes 83 = .ok (.aload_n 0, 1) := by decide +kernel
theorem dX6_pipes_84 : decode cX6_pipes 84 = .ok (.getfield 72, 3) := by decide +kernel
theorem dX6_pipes_87 : decode cX6_pipes 87 = .ok (.iload 6, 2) := by decide +kernel
theorem dX6_pipes_89 : decode cX6_pipes 89 = .ok (.iaload, 1) := by decide +kernel
theorem dX6_pipes_90 : decode cX6_pipes 90 = .ok (.goto 4, 3) := by decide +kernel
theorem dX6_pipes_93 : decode cX6_pipes 93 = .ok (.iload_n 3, 1) := by decide +kernel
theorem dX6_pipes_94 : decode cX6_pipes 94 = .ok (.istore_n 3, 1) := by decide +kernel
theorem dX6_pipes_95 : decode cX6_pipes 95 = .ok (.aload_n 0, 1) := by decide +kernel
theorem dX6_pipes_96 : decode cX6_pipes 96 = .ok (.getfield 72, 3) := by decide +kernel
theorem dX6_pipes_99 : decode cX6_pipes 99 = .ok (.iload 5, 2) := by decide +kernel
theorem dX6_pipes_101 : decode cX6_pipes 101 = .ok (.iload_n 3, 1) := by decide +kernel
theorem dX6_pipes_102 : decode cX6_pipes 102 = .ok (.iastore, 1) := by decide +kernel
theorem dX6_pipes_103 : decode cX6_pipes 103 = .ok (.aload_n 0, 1) := by decide +kernel
theorem dX6_pipes_104 : decode cX6_pipes 104 = .ok (.getfield 57, 3) := by decide +kernel
theorem dX6_pipes_107 : decode cX6_pipes 107 = .ok (.iload 5, 2) := by decide +kernel
theorem dX6_pipes_109 : decode cX6_pipes 109 = .ok (.iaload, 1) := by decide +kernel
theorem dX6_pipes_110 : decode cX6_pipes 110 = .ok (.istore 5, 2) := by decide +kernel
theorem dX6_pipes_112 : decode cX6_pipes 112 = .ok (.goto (-70), 3) := by decide +kernel
theorem dX6_pipes_115 : decode cX6_pipes 115 = .ok (.iinc 4 1, 3) := by decide +kernel
theorem dX6_pipes_118 : decode cX6_pipes 118 = .ok (.goto (-92), 3) := by decide +kernel
theorem dX6_pipes_121 : decode cX6_pipes 121 = .ok (.iload_n 3, 1) := by decide +kernel
theorem dX6_pipes_122 : decode cX6_pipes 122 = .ok (.ireturn, 1) := by decide +kernel
set_option maxRecDepth 20000 in
theorem ggX6_pipesCode_X6_isLayer : GoodIn wsX6_pipesCode wsX6_isLayer := goodIn_r _ [5, 6, 7, 8, 4, 9, 16, 17, 18, 19, 20, 21, 22, 23, 24, 25, 26, 27, 28, 29, 30, 31, 32, 33, 34, 35, 36, 37, 38, 39, 40] (by decide +kernel) (by decide +kernel)
set_option maxRecDepth 20000 in
theorem gX6_pipesCode_X6_isLayer : GoodIn wsX6_pipesCode (wsV RX6 99 RX6 yX6_isLayer wsX6_isLayer) := goodIn_app (goodIn_of _ (by decide +kernel)) ggX6_pipesCode_X6_isLayer
set_option maxRecDepth 20000 in
theorem ggX6_pipesCode_X6_in : GoodIn wsX6_pipesCode wsX6_in := goodIn_r _ [9] (by decide +kernel) (by decide +kernel)
set_option maxRecDepth 20000 in
theorem gX6_pipesCode_X6_in : GoodIn wsX6_pipesCode (va_wsS RX6 81 yX6_in wsX6_in) := goodIn_app (goodIn_of _ (by decide +kernel)) ggX6_pipesCode_X6_in
set_option maxRecDepth 20000 in
theorem ggX6_pipesCode_X6_isChainPlaced : GoodIn wsX6_pipesCode wsX6_isChainPlaced := goodIn_r _ [13, 14, 15, 16, 17, 18, 19, 20, 21, 22, 23, 24, 25, 26, 27, 28, 29, 30, 31, 32, 33, 34, 35, 36, 37, 38, 39, 40] (by decide +kernel) (by decide +kernel)
set_option maxRecDepth 20000 in
theorem gX6_pipesCode_X6_isChainPlaced : GoodIn wsX6_pipesCode (wsV RX6 174 RX6 yX6_isChainPlaced wsX6_isChainPlaced) := goodIn_app (goodIn_of _ (by decide +kernel)) ggX6_pipesCode_X6_isChainPlaced
theorem dX6_pipesCode_0 : decode cX6_pipesCode 0 = .ok (.aload_n 0, 1) := by decide +kernel
theorem dX6_pipesCode_1 : decode cX6_pipesCode 1 = .ok (.iload_n 1, 1) := by decide +kernel
theorem dX6_pipesCode_2 : decode cX6_pipesCode 2 = .ok (.invokevirtual 99, 3) := by decide +kernel
theorem dX6_pipesCode_5 : decode cX6_pipesCode 5 = .ok (.ifCond .ne 7, 3) := by decide +kernel
theorem dX6_pipesCode_8 : decode cX6_pipesCode 8 = .ok (.iconst 1, 1) := by decide +kernel
theorem dX6_pipesCode_9 : decode cX6_pipesCode 9 = .ok (.goto 31, 3) := by decide +kernel
theorem dX6_pipesCode_12 : decode cX6_pipesCode 12 = .ok (.iload_n 2, 1) := by decide +kernel
theorem dX6_pipesCode_13 : decode cX6_pipesCode 13 = .ok (.iconst 1, 1) := by decide +kernel
theorem dX6_pipesCode_14 : decode cX6_pipesCode 14 = .ok (.sipush 1000, 3) := by decide +kernel
theorem dX6_pipesCode_17 : decode cX6_pipesCode 17 = .ok (.invokestatic 81, 3) := by decide +kernel
theorem dX6_pipesCode_20 : decode cX6_pipesCode 20 = .ok (.ifCond .ne 7, 3) := by decide +kernel
theorem dX6_pipesCode_23 : decode cX6_pipesCode 23 = .ok (.iconst 2, 1) := by decide +kernel
theorem dX6_pipesCode_24 : decode cX6_pipesCode 24 = .ok (.goto 16, 3) := by decide +kernel
theorem dX6_pipesCode_27 : decode cX6_pipesCode 27 = .ok (.aload_n 0, 1) := by decide +kernel
theorem dX6_pipesCode_28 : decode cX6_pipesCode 28 = .ok (.iload_n 1, 1) := by decide +kernel
theorem dX6_pipesCode_29 : decode cX6_pipesCode 29 = .ok (.invokevirtual 174, 3) := by decide +kernel
theorem dX6_pipesCode_32 : decode cX6_pipesCode 32 = .ok (.ifCond .eq 7, 3) := by decide +kernel
theorem dX6_pipesCode_35 : decode cX6_pipesCode 35 = .ok (.iconst 0, 1) := by decide +kernel
theorem dX6_pipesCode_36 : decode cX6_pipesCode 36 = .ok (.goto 4, 3) := by decide +kernel
theorem dX6_pipesCode_39 : decode cX6_pipesCode 39 = .ok (.iconst 3, 1) := by decide +kernel
theorem dX6_pipesCode_40 : decode cX6_pipesCode 40 = .ok (.ireturn, 1) := by decide +kernel
set_option maxRecDepth 20000 in
theorem ggX6_cycles_X6_pipesCode : GoodIn wsX6_cycles wsX6_pipesCode := goodIn_r _ [6, 7, 8, 9, 5, 10, 11, 12, 13, 14, 15, 16, 17, 18, 19, 20, 32, 33, 34, 35, 36, 37, 38, 39, 40, 41, 42, 43, 44, 45, 46, 47, 48, 49, 50, 51, 52, 53, 54, 55, 56] (by decide +kernel) (by decide +kernel)
set_option maxRecDepth 20000 in
theorem gX6_cycles_X6_pipesCode : GoodIn wsX6_cycles (wsV RX6 184 RX6 yX6_pipesCode wsX6_pipesCode) := goodIn_app (goodIn_of _ (by decide +kernel)) ggX6_cycles_X6_pipesCode
set_option maxRecDepth 20000 in
theorem ggX6_cycles_X6_pipes : GoodIn wsX6_cycles wsX6_pipes := goodIn_r _ [24, 25, 20, 26, 27, 28, 5, 29, 30, 19, 31, 32, 33, 34, 35, 36, 37, 38, 39, 40, 41, 42, 43, 44, 45, 46, 47, 48, 49, 50, 51, 52, 53, 54, 55, 56] (by decide +kernel) (by decide +kernel)
set_option maxRecDepth 20000 in
theorem gX6_cycles_X6_pipes : GoodIn wsX6_cycles (wsV RX6 187 RX6 yX6_pipes wsX6_pipes) := goodIn_app (goodIn_of _ (by decide +kernel)) ggX6_cycles_X6_pipes
theorem dX6_cycles_0 : decode cX6_cycles 0 = .ok (.aload_n 0, 1) := by decide +kernel
theorem dX6_cycles_1 : decode cX6_cycles 1 = .ok (.aload_n 0, 1) := by decide +kernel
theorem dX6_cycles_2 : decode cX6_cycles 2 = .ok (.iload_n 1, 1) := by decide +kernel
theorem dX6_cycles_3 : decode cX6_cycles 3 = .ok (.iload_n 2, 1) := by decide +kernel
theorem dX6_cycles_4 : decode cX6_cycles 4 = .ok (.invokevirtual 184, 3) := by decide +kernel
theorem dX6_cycles_7 : decode cX6_cycles 7 = .ok (.putfield 75, 3) := by decide +kernel
theorem dX6_cycles_10 : decode cX6_cycles 10 = .ok (.aload_n 0, 1) := by decide +kernel
theorem dX6_cycles_11 : decode cX6_cycles 11 = .ok (.getfield 75, 3) := by decide +kernel
theorem dX6_cycles_14 : decode cX6_cycles 14 = .ok (.ifCond .le 7, 3) := by decide +kernel
theorem dX6_cycles_17 : decode cX6_cycles 17 = .ok (.iconst 0, 1) := by decide +kernel
theorem dX6_cycles_18 : decode cX6_cycles 18 = .ok (.goto 9, 3) := by decide +kernel
theorem dX6_cycles_21 : decode cX6_cycles 21 = .ok (.aload_n 0, 1) := by decide +kernel
theorem dX6_cycles_22 : decode cX6_cycles 22 = .ok (.iload_n 1, 1) := by decide +kernel
theorem dX6_cycles_23 : decode cX6_cycles 23 = .ok (.iload_n 2, 1) := by decide +kernel
theorem dX6_cycles_24 : decode cX6_cycles 24 = .ok (.invokevirtual 187, 3) := by decide +kernel
theorem dX6_cycles_27 : decode cX6_cycles 27 = .ok (.ireturn, 1) := by decide +kernel
set_option maxRecDepth 20000 in
theorem ggX6_cyclesAnew_X6_pipesCode : GoodIn wsX6_cyclesAnew wsX6_pipesCode := goodIn_r _ [6, 7, 8, 9, 5, 10, 11, 12, 13, 14, 15, 16, 17, 18, 19, 20, 32, 33, 34, 35, 36, 37, 38, 39, 40, 41, 42, 43, 44, 45, 46, 47, 48, 49, 50, 51, 52, 53, 54, 55, 56] (by decide +kernel) (by decide +kernel)
set_option maxRecDepth 20000 in
theorem gX6_cyclesAnew_X6_pipesCode : GoodIn wsX6_cyclesAnew (wsV RX6 184 RX6 yX6_pipesCode wsX6_pipesCode) := goodIn_app (goodIn_of _ (by decide +kernel)) ggX6_cyclesAnew_X6_pipesCode
set_option maxRecDepth 20000 in
theorem ggX6_cyclesAnew_X6_pipes : GoodIn wsX6_cyclesAnew wsX6_pipes := goodIn_r _ [24, 25, 20, 26, 27, 28, 5, 29, 30, 19, 31, 32, 33, 34, 35, 36, 37, 38, 39, 40, 41, 42, 43, 44, 45, 46, 47, 48, 49, 50, 51, 52, 53, 54, 55, 56] (by decide +kernel) (by decide +kernel)
set_option maxRecDepth 20000 in
theorem gX6_cyclesAnew_X6_pipes : GoodIn wsX6_cyclesAnew (wsV RX6 187 RX6 yX6_pipes wsX6_pipes) := goodIn_app (goodIn_of _ (by decide +kernel)) ggX6_cyclesAnew_X6_pipes
theorem dX6_cyclesAnew_0 : decode cX6_cyclesAnew 0 = .ok (.aload_n 0, 1) := by decide +kernel
theorem dX6_cyclesAnew_1 : decode cX6_cyclesAnew 1 = .ok (.aload_n 0, 1) := by decide +kernel
theorem dX6_cyclesAnew_2 : decode cX6_cyclesAnew 2 = .ok (.iload_n 1, 1) := by decide +kernel
theorem dX6_cyclesAnew_3 : decode cX6_cyclesAnew 3 = .ok (.iload_n 2, 1) := by decide +kernel
theorem dX6_cyclesAnew_4 : decode cX6_cyclesAnew 4 = .ok (.invokevirtual 184, 3) := by decide +kernel
theorem dX6_cyclesAnew_7 : decode cX6_cyclesAnew 7 = .ok (.putfield 75, 3) := by decide +kernel
theorem dX6_cyclesAnew_10 : decode cX6_cyclesAnew 10 = .ok (.aload_n 0, 1) := by decide +kernel
theorem dX6_cyclesAnew_11 : decode cX6_cyclesAnew 11 = .ok (.getfield 75, 3) := by decide +kernel
theorem dX6_cyclesAnew_14 : decode cX6_cyclesAnew 14 = .ok (.ifCond .le 7, 3) := by decide +kernel
theorem dX6_cyclesAnew_17 : decode cX6_cyclesAnew 17 = .ok (.iconst 0, 1) := by decide +kernel
theorem dX6_cyclesAnew_18 : decode cX6_cyclesAnew 18 = .ok (.goto 9, 3) := by decide +kernel
theorem dX6_cyclesAnew_21 : decode cX6_cyclesAnew 21 = .ok (.aload_n 0, 1) := by decide +kernel
theorem dX6_cyclesAnew_22 : decode cX6_cyclesAnew 22 = .ok (.iload_n 1, 1) := by decide +kernel
theorem dX6_cyclesAnew_23 : decode cX6_cyclesAnew 23 = .ok (.iload_n 2, 1) := by decide +kernel
theorem dX6_cyclesAnew_24 : decode cX6_cyclesAnew 24 = .ok (.invokevirtual 187, 3) := by decide +kernel
theorem dX6_cyclesAnew_27 : decode cX6_cyclesAnew 27 = .ok (.ireturn, 1) := by decide +kernel
set_option maxRecDepth 20000 in
theorem ggX6_wear_X6_isTile : GoodIn wsX6_wear wsX6_isTile := goodIn_r _ [6, 7, 8, 5, 9] (by decide +kernel) (by decide +kernel)
set_option maxRecDepth 20000 in
theorem gX6_wear_X6_isTile : GoodIn wsX6_wear (va_wsS RX6 85 yX6_isTile wsX6_isTile) := goodIn_app (goodIn_of _ (by decide +kernel)) ggX6_wear_X6_isTile
theorem dX6_wear_0 : decode cX6_wear 0 = .ok (.aload_n 0, 1) := by decide +kernel
theorem dX6_wear_1 : decode cX6_wear 1 = .ok (.iload_n 1, 1) := by decide +kernel
theorem dX6_wear_2 : decode cX6_wear 2 = .ok (.invokestatic 85, 3) := by decide +kernel
theorem dX6_wear_5 : decode cX6_wear 5 = .ok (.ifCond .eq 7, 3) := by decide +kernel
theorem dX6_wear_8 : decode cX6_wear 8 = .ok (.iconst 0, 1) := by decide +kernel
theorem dX6_wear_9 : decode cX6_wear 9 = .ok (.goto 4, 3) := by decide +kernel
theorem dX6_wear_12 : decode cX6_wear 12 = .ok (.iconst 1, 1) := by decide +kernel
theorem dX6_wear_13 : decode cX6_wear 13 = .ok (.putfield 75, 3) := by decide +kernel
theorem dX6_wear_16 : decode cX6_wear 16 = .ok (.lconst 0, 1) := by decide +kernel
theorem dX6_wear_17 : decode cX6_wear 17 = .ok (.lstore_n 2, 1) := by decide +kernel
theorem dX6_wear_18 : decode cX6_wear 18 = .ok (.iconst 0, 1) := by decide +kernel
theorem dX6_wear_19 : decode cX6_wear 19 = .ok (.istore 4, 2) := by decide +kernel
theorem dX6_wear_21 : decode cX6_wear 21 = .ok (.iload 4, 2) := by decide +kernel
theorem dX6_wear_23 : decode cX6_wear 23 = .ok (.sipush 128, 3) := by decide +kernel
theorem dX6_wear_26 : decode cX6_wear 26 = .ok (.if_icmp .ge 33, 3) := by decide +kernel
theorem dX6_wear_29 : decode cX6_wear 29 = .ok (.aload_n 0, 1) := by decide +kernel
theorem dX6_wear_30 : decode cX6_wear 30 = .ok (.getfield 75, 3) := by decide +kernel
theorem dX6_wear_33 : decode cX6_wear 33 = .ok (.ifCond .ne 26, 3) := by decide +kernel
theorem dX6_wear_36 : decode cX6_wear 36 = .ok (.lload_n 2, 1) := by decide +kernel
theorem dX6_wear_37 : decode cX6_wear 37 = .ok (.aload_n 0, 1) := by decide +kernel
theorem dX6_wear_38 : decode cX6_wear 38 = .ok (.getfield 17, 3) := by decide +kernel
theorem dX6_wear_41 : decode cX6_wear 41 = .ok (.sipush 128, 3) := by decide +kernel
theorem dX6_wear_44 : decode cX6_wear 44 = .ok (.iload_n 1, 1) := by decide +kernel
theorem dX6_wear_45 : decode cX6_wear 45 = .ok (.imul, 1) := by decide +kernel
theorem dX6_wear_46 : decode cX6_wear 46 = .ok (.iload 4, 2) := by decide +kernel
theorem dX6_wear_48 : decode cX6_wear 48 = .ok (.iadd, 1) := by decide +kernel
theorem dX6_wear_49 : decode cX6_wear 49 = .ok (.iaload, 1) := by decide +kernel
theorem dX6_wear_50 : decode cX6_wear 50 = .ok (.i2l, 1) := by decide +kernel
theorem dX6_wear_51 : decode cX6_wear 51 = .ok (.ladd, 1) := by decide +kernel
theorem dX6_wear_52 : decode cX6_wear 52 = .ok (.lstore_n 2, 1) := by decide +kernel
theorem dX6_wear_53 : decode cX6_wear 53 = .ok (.iinc 4 1, 3) := by decide +kernel
theorem dX6_wear_56 : decode cX6_wear 56 = .ok (.goto (-35), 3) := by decide +kernel
theorem dX6_wear_59 : decode cX6_wear 59 = .ok (.lload_n 2, 1) := by decide +kernel
theorem dX6_wear_60 : decode cX6_wear 60 = .ok (.lreturn, 1) := by decide +kernel
set_option maxRecDepth 20000 in
theorem ggX6_share_X6_isTile : GoodIn wsX6_share wsX6_isTile := goodIn_r _ [7, 8, 9, 6, 10] (by decide +kernel) (by decide +kernel)
set_option maxRecDepth 20000 in
theorem gX6_share_X6_isTile : GoodIn wsX6_share (va_wsS RX6 85 yX6_isTile wsX6_isTile) := goodIn_app (goodIn_of _ (by decide +kernel)) ggX6_share_X6_isTile
theorem dX6_share_0 : decode cX6_share 0 = .ok (.aload_n 0, 1) := by decide +kernel
theorem dX6_share_1 : decode cX6_share 1 = .ok (.iload_n 1, 1) := by decide +kernel
theorem dX6_share_2 : decode cX6_share 2 = .ok (.invokestatic 85, 3) := by decide +kernel
theorem dX6_share_5 : decode cX6_share 5 = .ok (.ifCond .eq 7, 3) := by decide +kernel
theorem dX6_share_8 : decode cX6_share 8 = .ok (.iconst 0, 1) := by decide +kernel
theorem dX6_share_9 : decode cX6_share 9 = .ok (.goto 4, 3) := by decide +kernel
theorem dX6_share_12 : decode cX6_share 12 = .ok (.iconst 1, 1) := by decide +kernel
theorem dX6_share_13 : decode cX6_share 13 = .ok (.putfield 75, 3) := by decide +kernel
theorem dX6_share_16 : decode cX6_share 16 = .ok (.iconst 0, 1) := by decide +kernel
theorem dX6_share_17 : decode cX6_share 17 = .ok (.istore_n 2, 1) := by decide +kernel
theorem dX6_share_18 : decode cX6_share 18 = .ok (.iconst 0, 1) := by decide +kernel
theorem dX6_share_19 : decode cX6_share 19 = .ok (.istore_n 3, 1) := by decide +kernel
theorem dX6_share_20 : decode cX6_share 20 = .ok (.iload_n 3, 1) := by decide +kernel
theorem dX6_share_21 : decode cX6_share 21 = .ok (.sipush 128, 3) := by decide +kernel
theorem dX6_share_24 : decode cX6_share 24 = .ok (.if_icmp .ge 39, 3) := by decide +kernel
theorem dX6_share_27 : decode cX6_share 27 = .ok (.aload_n 0, 1) := by decide +kernel
theorem dX6_share_28 : decode cX6_share 28 = .ok (.getfield 75, 3) := by decide +kernel
theorem dX6_share_31 : decode cX6_share 31 = .ok (.ifCond .ne 32, 3) := by decide +kernel
theorem dX6_share_34 : decode cX6_share 34 = .ok (.iload_n 2, 1) := by decide +kernel
theorem dX6_share_35 : decode cX6_share 35 = .ok (.aload_n 0, 1) := by decide +kernel
theorem dX6_share_36 : decode cX6_share 36 = .ok (.getfield 23, 3) := by decide +kernel
theorem dX6_share_39 : decode cX6_share 39 = .ok (.sipush 128, 3) := by decide +kernel
theorem dX6_share_42 : decode cX6_share 42 = .ok (.iload_n 1, 1) := by decide +kernel
theorem dX6_share_43 : decode cX6_share 43 = .ok (.imul, 1) := by decide +kernel
theorem dX6_share_44 : decode cX6_share 44 = .ok (.iload_n 3, 1) := by decide +kernel
theorem dX6_share_45 : decode cX6_share 45 = .ok (.iadd, 1) := by decide +kernel
theorem dX6_share_46 : decode cX6_share 46 = .ok (.baload, 1) := by decide +kernel
theorem dX6_share_47 : decode cX6_share 47 = .ok (.ifCond .eq 7, 3) := by decide +kernel
theorem dX6_share_50 : decode cX6_share 50 = .ok (.iconst 1, 1) := by decide +kernel
theorem dX6_share_51 : decode cX6_share 51 = .ok (.goto 4, 3) := by decide +kernel
theorem dX6_share_54 : decode cX6_share 54 = .ok (.iconst 0, 1) := by decide +kernel
theorem dX6_share_55 : decode cX6_share 55 = .ok (.iadd, 1) := by decide +kernel
theorem dX6_share_56 : decode cX6_share 56 = .ok (.istore_n 2, 1) := by decide +kernel
theorem dX6_share_57 : decode cX6_share 57 = .ok (.iinc 3 1, 3) := by decide +kernel
theorem dX6_share_60 : decode cX6_share 60 = .ok (.goto (-40), 3) := by decide +kernel
theorem dX6_share_63 : decode cX6_share 63 = .ok (.iload_n 2, 1) := by decide +kernel
theorem dX6_share_64 : decode cX6_share 64 = .ok (.i2f, 1) := by decide +kernel
theorem dX6_share_65 : decode cX6_share 65 = .ok (.ldc 190, 2) := by decide +kernel
theorem dX6_share_67 : decode cX6_share 67 = .ok (.fdiv, 1) := by decide +kernel
theorem dX6_share_68 : decode cX6_share 68 = .ok (.freturn, 1) := by decide +kernel
theorem dX6_hour_0 : decode cX6_hour 0 = .ok (.aload_n 0, 1) := by decide +kernel
theorem dX6_hour_1 : decode cX6_hour 1 = .ok (.iconst 0, 1) := by decide +kernel
theorem dX6_hour_2 : decode cX6_hour 2 = .ok (.putfield 75, 3) := by decide +kernel
theorem dX6_hour_5 : decode cX6_hour 5 = .ok (.aload_n 0, 1) := by decide +kernel
theorem dX6_hour_6 : decode cX6_hour 6 = .ok (.getfield 92, 3) := by decide +kernel
theorem dX6_hour_9 : decode cX6_hour 9 = .ok (.ireturn, 1) := by decide +kernel
theorem dJ6_bitCount_0f7a4_0 : decode cJ6_bitCount_0f7a4 0 = .ok (.iload_n 0, 1) := by decide +kernel
theorem dJ6_bitCount_0f7a4_1 : decode cJ6_bitCount_0f7a4 1 = .ok (.iload_n 0, 1) := by decide +kernel
theorem dJ6_bitCount_0f7a4_2 : decode cJ6_bitCount_0f7a4 2 = .ok (.iconst 1, 1) := by decide +kernel
theorem dJ6_bitCount_0f7a4_3 : decode cJ6_bitCount_0f7a4 3 = .ok (.iushr, 1) := by decide +kernel
theorem dJ6_bitCount_0f7a4_4 : decode cJ6_bitCount_0f7a4 4 = .ok (.ldc_w 265, 3) := by decide +kernel
theorem dJ6_bitCount_0f7a4_7 : decode cJ6_bitCount_0f7a4 7 = .ok (.iand, 1) := by decide +kernel
theorem dJ6_bitCount_0f7a4_8 : decode cJ6_bitCount_0f7a4 8 = .ok (.isub, 1) := by decide +kernel
theorem dJ6_bitCount_0f7a4_9 : decode cJ6_bitCount_0f7a4 9 = .ok (.istore_n 0, 1) := by decide +kernel
theorem dJ6_bitCount_0f7a4_10 : decode cJ6_bitCount_0f7a4 10 = .ok (.iload_n 0, 1) := by decide +kernel
theorem dJ6_bitCount_0f7a4_11 : decode cJ6_bitCount_0f7a4 11 = .ok (.ldc_w 266, 3) := by decide +kernel
theorem dJ6_bitCount_0f7a4_14 : decode cJ6_bitCount_0f7a4 14 = .ok (.iand, 1) := by decide +kernel
theorem dJ6_bitCount_0f7a4_15 : decode cJ6_bitCount_0f7a4 15 = .ok (.iload_n 0, 1) := by decide +kernel
theorem dJ6_bitCount_0f7a4_16 : decode cJ6_bitCount_0f7a4 16 = .ok (.iconst 2, 1) := by decide +kernel
theorem dJ6_bitCount_0f7a4_17 : decode cJ6_bitCount_0f7a4 17 = .ok (.iushr, 1) := by decide +kernel
theorem dJ6_bitCount_0f7a4_18 : decode cJ6_bitCount_0f7a4 18 = .ok (.ldc_w 266, 3) := by decide +kernel
theorem dJ6_bitCount_0f7a4_21 : decode cJ6_bitCount_0f7a4 21 = .ok (.iand, 1) := by decide +kernel
theorem dJ6_bitCount_0f7a4_22 : decode cJ6_bitCount_0f7a4 22 = .ok (.iadd, 1) := by decide +kernel
theorem dJ6_bitCount_0f7a4_23 : decode cJ6_bitCount_0f7a4 23 = .ok (.istore_n 0, 1) := by decide +kernel
theorem dJ6_bitCount_0f7a4_24 : decode cJ6_bitCount_0f7a4 24 = .ok (.iload_n 0, 1) := by decide +kernel
theorem dJ6_bitCount_0f7a4_25 : decode cJ6_bitCount_0f7a4 25 = .ok (.iload_n 0, 1) := by decide +kernel
theorem dJ6_bitCount_0f7a4_26 : decode cJ6_bitCount_0f7a4 26 = .ok (.iconst 4, 1) := by decide +kernel
theorem dJ6_bitCount_0f7a4_27 : decode cJ6_bitCount_0f7a4 27 = .ok (.iushr, 1) := by decide +kernel
theorem dJ6_bitCount_0f7a4_28 : decode cJ6_bitCount_0f7a4 28 = .ok (.iadd, 1) := by decide +kernel
theorem dJ6_bitCount_0f7a4_29 : decode cJ6_bitCount_0f7a4 29 = .ok (.ldc_w 267, 3) := by decide +kernel
theorem dJ6_bitCount_0f7a4_32 : decode cJ6_bitCount_0f7a4 32 = .ok (.iand, 1) := by decide +kernel
theorem dJ6_bitCount_0f7a4_33 : decode cJ6_bitCount_0f7a4 33 = .ok (.istore_n 0, 1) := by decide +kernel
theorem dJ6_bitCount_0f7a4_34 : decode cJ6_bitCount_0f7a4 34 = .ok (.iload_n 0, 1) := by decide +kernel
theorem dJ6_bitCount_0f7a4_35 : decode cJ6_bitCount_0f7a4 35 = .ok (.iload_n 0, 1) := by decide +kernel
theorem dJ6_bitCount_0f7a4_36 : decode cJ6_bitCount_0f7a4 36 = .ok (.bipush 8, 2) := by decide +kernel
theorem dJ6_bitCount_0f7a4_38 : decode cJ6_bitCount_0f7a4 38 = .ok (.iushr, 1) := by decide +kernel
theorem dJ6_bitCount_0f7a4_39 : decode cJ6_bitCount_0f7a4 39 = .ok (.iadd, 1) := by decide +kernel
theorem dJ6_bitCount_0f7a4_40 : decode cJ6_bitCount_0f7a4 40 = .ok (.istore_n 0, 1) := by decide +kernel
theorem dJ6_bitCount_0f7a4_41 : decode cJ6_bitCount_0f7a4 41 = .ok (.iload_n 0, 1) := by decide +kernel
theorem dJ6_bitCount_0f7a4_42 : decode cJ6_bitCount_0f7a4 42 = .ok (.iload_n 0, 1) := by decide +kernel
theorem dJ6_bitCount_0f7a4_43 : decode cJ6_bitCount_0f7a4 43 = .ok (.bipush 16, 2) := by decide +kernel
theorem dJ6_bitCount_0f7a4_45 : decode cJ6_bitCount_0f7a4 45 = .ok (.iushr, 1) := by decide +kernel
theorem dJ6_bitCount_0f7a4_46 : decode cJ6_bitCount_0f7a4 46 = .ok (.iadd, 1) := by decide +kernel
theorem dJ6_bitCount_0f7a4_47 : decode cJ6_bitCount_0f7a4 47 = .ok (.istore_n 0, 1) := by decide +kernel
theorem dJ6_bitCount_0f7a4_48 : decode cJ6_bitCount_0f7a4 48 = .ok (.iload_n 0, 1) := by decide +kernel
theorem dJ6_bitCount_0f7a4_49 : decode cJ6_bitCount_0f7a4 49 = .ok (.bipush 63, 2) := by decide +kernel
theorem dJ6_bitCount_0f7a4_51 : decode cJ6_bitCount_0f7a4 51 = .ok (.iand, 1) := by decide +kernel
theorem dJ6_bitCount_0f7a4_52 : decode cJ6_bitCount_0f7a4 52 = .ok (.ireturn, 1) := by decide +kernel
theorem dJ9_max_7cf53_0 : decode cJ9_max_7cf53 0 = .ok (.iload_n 0, 1) := by decide +kernel
theorem dJ9_max_7cf53_1 : decode cJ9_max_7cf53 1 = .ok (.iload_n 1, 1) := by decide +kernel
theorem dJ9_max_7cf53_2 : decode cJ9_max_7cf53 2 = .ok (.if_icmp .lt 7, 3) := by decide +kernel
theorem dJ9_max_7cf53_5 : decode cJ9_max_7cf53 5 = .ok (.iload_n 0, 1) := by decide +kernel
theorem dJ9_max_7cf53_6 : decode cJ9_max_7cf53 6 = .ok (.goto 4, 3) := by decide +kernel
theorem dJ9_max_7cf53_9 : decode cJ9_max_7cf53 9 = .ok (.iload_n 1, 1) := by decide +kernel
theorem dJ9_max_7cf53_10 : decode cJ9_max_7cf53 10 = .ok (.ireturn, 1) := by decide +kernel
theorem dJ9_min_7cf53_0 : decode cJ9_min_7cf53 0 = .ok (.iload_n 0, 1) := by decide +kernel
theorem dJ9_min_7cf53_1 : decode cJ9_min_7cf53 1 = .ok (.iload_n 1, 1) := by decide +kernel
theorem dJ9_min_7cf53_2 : decode cJ9_min_7cf53 2 = .ok (.if_icmp .gt 7, 3) := by decide +kernel
theorem dJ9_min_7cf53_5 : decode cJ9_min_7cf53 5 = .ok (.iload_n 0, 1) := by decide +kernel
theorem dJ9_min_7cf53_6 : decode cJ9_min_7cf53 6 = .ok (.goto 4, 3) := by decide +kernel
theorem dJ9_min_7cf53_9 : decode cJ9_min_7cf53 9 = .ok (.iload_n 1, 1) := by decide +kernel
theorem dJ9_min_7cf53_10 : decode cJ9_min_7cf53 10 = .ok (.ireturn, 1) := by decide +kernel
set_option maxRecDepth 20000 in
theorem ggL_layer_X5_layer : GoodIn wsL_layer wsX5_layer := goodIn_ca (goodIn_ca (goodIn_r _ [7, 8, 9, 10, 11, 12, 13, 14, 15, 16, 6, 17, 18, 19, 20, 21, 22, 23, 24, 25, 26, 27, 28, 29, 30, 31, 32, 33, 34, 35, 36, 37, 38, 39, 40, 41, 42, 43, 44, 45, 46, 47, 48] (by decide +kernel) (by decide +kernel)) (goodIn_sub (fun _ h => List.mem_cons_of_mem _ (List.mem_append_left _ (List.mem_append_right _ h))) (by decide +kernel))) (goodIn_sub (fun _ h => List.mem_cons_of_mem _ (List.mem_append_right _ h)) (by decide +kernel))
