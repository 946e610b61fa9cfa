theorem dX0_lengthOver_40 : decode cX0_lengthOver 40 = .ok (.iconst 2, 1) := by decide +kernel
theorem dX0_lengthOver_41 : decode cX0_lengthOver 41 = .ok (.idiv, 1) := by decide +kernel
theorem dX0_lengthOver_42 : decode cX0_lengthOver 42 = .ok (.istore 4, 2) := by decide +kernel
theorem dX0_lengthOver_44 : decode cX0_lengthOver 44 = .ok (.goto (-29), 3) := by decide +kernel
theorem dX0_lengthOver_47 : decode cX0_lengthOver 47 = .ok (.iload_n 3, 1) := by decide +kernel
theorem dX0_lengthOver_48 : decode cX0_lengthOver 48 = .ok (.ireturn, 1) := by decide +kernel
set_option maxRecDepth 20000 in
theorem ggX0_lengthWith_X0_heightIn : GoodIn wsX0_lengthWith wsX0_heightIn := goodIn_r _ [6, 7, 8, 12, 13, 14, 15, 16, 17, 18, 19, 20, 21, 22, 23, 24, 25, 26] (by decide +kernel) (by decide +kernel)
set_option maxRecDepth 20000 in
theorem gX0_lengthWith_X0_heightIn : GoodIn wsX0_lengthWith (wsV RX0 146 RX0 yX0_heightIn wsX0_heightIn) := goodIn_app (goodIn_of _ (by decide +kernel)) ggX0_lengthWith_X0_heightIn
set_option maxRecDepth 20000 in
theorem ggX0_lengthWith_X0_lengthOver : GoodIn wsX0_lengthWith wsX0_lengthOver := goodIn_r _ [11] (by decide +kernel) (by decide +kernel)
set_option maxRecDepth 20000 in
theorem gX0_lengthWith_X0_lengthOver : GoodIn wsX0_lengthWith (va_wsS RX0 75 yX0_lengthOver wsX0_lengthOver) := goodIn_app (goodIn_of _ (by decide +kernel)) ggX0_lengthWith_X0_lengthOver
theorem dX0_lengthWith_0 : decode cX0_lengthWith 0 = .ok (.aload_n 0, 1) := by decide +kernel
theorem dX0_lengthWith_1 : decode cX0_lengthWith 1 = .ok (.getfield 38, 3) := by decide +kernel
theorem dX0_lengthWith_4 : decode cX0_lengthWith 4 = .ok (.iload_n 1, 1) := by decide +kernel
theorem dX0_lengthWith_5 : decode cX0_lengthWith 5 = .ok (.iaload, 1) := by decide +kernel
theorem dX0_lengthWith_6 : decode cX0_lengthWith 6 = .ok (.iload_n 3, 1) := by decide +kernel
theorem dX0_lengthWith_7 : decode cX0_lengthWith 7 = .ok (.isub, 1) := by decide +kernel
theorem dX0_lengthWith_8 : decode cX0_lengthWith 8 = .ok (.aload_n 0, 1) := by decide +kernel
theorem dX0_lengthWith_9 : decode cX0_lengthWith 9 = .ok (.iload_n 2, 1) := by decide +kernel
theorem dX0_lengthWith_10 : decode cX0_lengthWith 10 = .ok (.invokevirtual 146, 3) := by decide +kernel
theorem dX0_lengthWith_13 : decode cX0_lengthWith 13 = .ok (.invokestatic 75, 3) := by decide +kernel
theorem dX0_lengthWith_16 : decode cX0_lengthWith 16 = .ok (.ireturn, 1) := by decide +kernel
theorem dX0_tensionAtLength_0 : decode cX0_tensionAtLength 0 = .ok (.aload_n 0, 1) := by decide +kernel
theorem dX0_tensionAtLength_1 : decode cX0_tensionAtLength 1 = .ok (.getfield 50, 3) := by decide +kernel
theorem dX0_tensionAtLength_4 : decode cX0_tensionAtLength 4 = .ok (.iload_n 1, 1) := by decide +kernel
theorem dX0_tensionAtLength_5 : decode cX0_tensionAtLength 5 = .ok (.baload, 1) := by decide +kernel
theorem dX0_tensionAtLength_6 : decode cX0_tensionAtLength 6 = .ok (.ifCond .ne 5, 3) := by decide +kernel
theorem dX0_tensionAtLength_9 : decode cX0_tensionAtLength 9 = .ok (.iconst 0, 1) := by decide +kernel
theorem dX0_tensionAtLength_10 : decode cX0_tensionAtLength 10 = .ok (.ireturn, 1) := by decide +kernel
theorem dX0_tensionAtLength_11 : decode cX0_tensionAtLength 11 = .ok (.aload_n 0, 1) := by decide +kernel
theorem dX0_tensionAtLength_12 : decode cX0_tensionAtLength 12 = .ok (.getfield 41, 3) := by decide +kernel
theorem dX0_tensionAtLength_15 : decode cX0_tensionAtLength 15 = .ok (.iload_n 1, 1) := by decide +kernel
theorem dX0_tensionAtLength_16 : decode cX0_tensionAtLength 16 = .ok (.iaload, 1) := by decide +kernel
theorem dX0_tensionAtLength_17 : decode cX0_tensionAtLength 17 = .ok (.iconst 0, 1) := by decide +kernel
theorem dX0_tensionAtLength_18 : decode cX0_tensionAtLength 18 = .ok (.iload_n 2, 1) := by decide +kernel
theorem dX0_tensionAtLength_19 : decode cX0_tensionAtLength 19 = .ok (.aload_n 0, 1) := by decide +kernel
theorem dX0_tensionAtLength_20 : decode cX0_tensionAtLength 20 = .ok (.getfield 47, 3) := by decide +kernel
theorem dX0_tensionAtLength_23 : decode cX0_tensionAtLength 23 = .ok (.iload_n 1, 1) := by decide +kernel
theorem dX0_tensionAtLength_24 : decode cX0_tensionAtLength 24 = .ok (.iaload, 1) := by decide +kernel
theorem dX0_tensionAtLength_25 : decode cX0_tensionAtLength 25 = .ok (.isub, 1) := by decide +kernel
theorem dX0_tensionAtLength_26 : decode cX0_tensionAtLength 26 = .ok (.invokestatic 113, 3) := by decide +kernel
theorem dX0_tensionAtLength_29 : decode cX0_tensionAtLength 29 = .ok (.imul, 1) := by decide +kernel
theorem dX0_tensionAtLength_30 : decode cX0_tensionAtLength 30 = .ok (.ireturn, 1) := by decide +kernel
set_option maxRecDepth 20000 in
theorem ggX0_pullWith_X0_heightIn : GoodIn wsX0_pullWith wsX0_heightIn := goodIn_r _ [6, 7, 8, 23, 24, 25, 26, 27, 28, 29, 30, 31, 32, 33, 34, 35, 36, 37] (by decide +kernel) (by decide +kernel)
set_option maxRecDepth 20000 in
theorem gX0_pullWith_X0_heightIn : GoodIn wsX0_pullWith (wsV RX0 146 RX0 yX0_heightIn wsX0_heightIn) := goodIn_app (goodIn_of _ (by decide +kernel)) ggX0_pullWith_X0_heightIn
set_option maxRecDepth 20000 in
theorem ggX0_pullWith_X0_lengthOver : GoodIn wsX0_pullWith wsX0_lengthOver := goodIn_r _ [11] (by decide +kernel) (by decide +kernel)
set_option maxRecDepth 20000 in
theorem gX0_pullWith_X0_lengthOver : GoodIn wsX0_pullWith (va_wsS RX0 75 yX0_lengthOver wsX0_lengthOver) := goodIn_app (goodIn_of _ (by decide +kernel)) ggX0_pullWith_X0_lengthOver
set_option maxRecDepth 20000 in
theorem ggX0_pullWith_X0_tensionAtLength : GoodIn wsX0_pullWith wsX0_tensionAtLength := goodIn_r _ [15, 16, 17, 18, 19, 20, 21, 22, 23, 24, 25, 26, 27, 28, 29, 30, 31, 32, 33, 34, 35, 36, 37] (by decide +kernel) (by decide +kernel)
set_option maxRecDepth 20000 in
theorem gX0_pullWith_X0_tensionAtLength : GoodIn wsX0_pullWith (wsV RX0 101 RX0 yX0_tensionAtLength wsX0_tensionAtLength) := goodIn_app (goodIn_of _ (by decide +kernel)) ggX0_pullWith_X0_tensionAtLength
theorem dX0_pullWith_0 : decode cX0_pullWith 0 = .ok (.aload_n 0, 1) := by decide +kernel
theorem dX0_pullWith_1 : decode cX0_pullWith 1 = .ok (.getfield 38, 3) := by decide +kernel
theorem dX0_pullWith_4 : decode cX0_pullWith 4 = .ok (.iload_n 1, 1) := by decide +kernel
theorem dX0_pullWith_5 : decode cX0_pullWith 5 = .ok (.iaload, 1) := by decide +kernel
theorem dX0_pullWith_6 : decode cX0_pullWith 6 = .ok (.iload_n 3, 1) := by decide +kernel
theorem dX0_pullWith_7 : decode cX0_pullWith 7 = .ok (.isub, 1) := by decide +kernel
theorem dX0_pullWith_8 : decode cX0_pullWith 8 = .ok (.istore 4, 2) := by decide +kernel
theorem dX0_pullWith_10 : decode cX0_pullWith 10 = .ok (.iload 4, 2) := by decide +kernel
theorem dX0_pullWith_12 : decode cX0_pullWith 12 = .ok (.aload_n 0, 1) := by decide +kernel
theorem dX0_pullWith_13 : decode cX0_pullWith 13 = .ok (.iload_n 2, 1) := by decide +kernel
theorem dX0_pullWith_14 : decode cX0_pullWith 14 = .ok (.invokevirtual 146, 3) := by decide +kernel
theorem dX0_pullWith_17 : decode cX0_pullWith 17 = .ok (.invokestatic 75, 3) := by decide +kernel
theorem dX0_pullWith_20 : decode cX0_pullWith 20 = .ok (.istore 5, 2) := by decide +kernel
theorem dX0_pullWith_22 : decode cX0_pullWith 22 = .ok (.iload 5, 2) := by decide +kernel
theorem dX0_pullWith_24 : decode cX0_pullWith 24 = .ok (.ifCond .gt 5, 3) := by decide +kernel
theorem dX0_pullWith_27 : decode cX0_pullWith 27 = .ok (.iconst 0, 1) := by decide +kernel
theorem dX0_pullWith_28 : decode cX0_pullWith 28 = .ok (.ireturn, 1) := by decide +kernel
theorem dX0_pullWith_29 : decode cX0_pullWith 29 = .ok (.aload_n 0, 1) := by decide +kernel
theorem dX0_pullWith_30 : decode cX0_pullWith 30 = .ok (.iload_n 1, 1) := by decide +kernel
theorem dX0_pullWith_31 : decode cX0_pullWith 31 = .ok (.iload 5, 2) := by decide +kernel
theorem dX0_pullWith_33 : decode cX0_pullWith 33 = .ok (.invokevirtual 101, 3) := by decide +kernel
theorem dX0_pullWith_36 : decode cX0_pullWith 36 = .ok (.i2l, 1) := by decide +kernel
theorem dX0_pullWith_37 : decode cX0_pullWith 37 = .ok (.iload 4, 2) := by decide +kernel
theorem dX0_pullWith_39 : decode cX0_pullWith 39 = .ok (.i2l, 1) := by decide +kernel
theorem dX0_pullWith_40 : decode cX0_pullWith 40 = .ok (.lmul, 1) := by decide +kernel
theorem dX0_pullWith_41 : decode cX0_pullWith 41 = .ok (.lstore 6, 2) := by decide +kernel
theorem dX0_pullWith_43 : decode cX0_pullWith 43 = .ok (.lload 6, 2) := by decide +kernel
theorem dX0_pullWith_45 : decode cX0_pullWith 45 = .ok (.iload 5, 2) := by decide +kernel
theorem dX0_pullWith_47 : decode cX0_pullWith 47 = .ok (.i2l, 1) := by decide +kernel
theorem dX0_pullWith_48 : decode cX0_pullWith 48 = .ok (.ldiv, 1) := by decide +kernel
theorem dX0_pullWith_49 : decode cX0_pullWith 49 = .ok (.l2i, 1) := by decide +kernel
theorem dX0_pullWith_50 : decode cX0_pullWith 50 = .ok (.ireturn, 1) := by decide +kernel
set_option maxRecDepth 20000 in
theorem ggX0_bollardTension_X0_lengthWith : GoodIn wsX0_bollardTension wsX0_lengthWith := goodIn_r _ [7, 8, 9, 10, 11, 6, 12, 13, 14, 15, 16, 17, 29, 30, 31, 32, 33, 34, 35, 36, 37, 38, 39, 40, 41, 42, 43] (by decide +kernel) (by decide +kernel)
set_option maxRecDepth 20000 in
theorem gX0_bollardTension_X0_lengthWith : GoodIn wsX0_bollardTension (wsV RX0 97 RX0 yX0_lengthWith wsX0_lengthWith) := goodIn_app (goodIn_of _ (by decide +kernel)) ggX0_bollardTension_X0_lengthWith
set_option maxRecDepth 20000 in
theorem ggX0_bollardTension_X0_tensionAtLength : GoodIn wsX0_bollardTension wsX0_tensionAtLength := goodIn_r _ [21, 22, 23, 24, 25, 26, 27, 28, 29, 30, 31, 32, 33, 34, 35, 36, 37, 38, 39, 40, 41, 42, 43] (by decide +kernel) (by decide +kernel)
set_option maxRecDepth 20000 in
theorem gX0_bollardTension_X0_tensionAtLength : GoodIn wsX0_bollardTension (wsV RX0 101 RX0 yX0_tensionAtLength wsX0_tensionAtLength) := goodIn_app (goodIn_of _ (by decide +kernel)) ggX0_bollardTension_X0_tensionAtLength
theorem dX0_bollardTension_0 : decode cX0_bollardTension 0 = .ok (.iconst 0, 1) := by decide +kernel
theorem dX0_bollardTension_1 : decode cX0_bollardTension 1 = .ok (.istore 4, 2) := by decide +kernel
theorem dX0_bollardTension_3 : decode cX0_bollardTension 3 = .ok (.iconst 0, 1) := by decide +kernel
theorem dX0_bollardTension_4 : decode cX0_bollardTension 4 = .ok (.istore 5, 2) := by decide +kernel
theorem dX0_bollardTension_6 : decode cX0_bollardTension 6 = .ok (.iload 5, 2) := by decide +kernel
theorem dX0_bollardTension_8 : decode cX0_bollardTension 8 = .ok (.aload_n 0, 1) := by decide +kernel
theorem dX0_bollardTension_9 : decode cX0_bollardTension 9 = .ok (.getfield 32, 3) := by decide +kernel
theorem dX0_bollardTension_12 : decode cX0_bollardTension 12 = .ok (.if_icmp .ge 39, 3) := by decide +kernel
theorem dX0_bollardTension_15 : decode cX0_bollardTension 15 = .ok (.aload_n 0, 1) := by decide +kernel
theorem dX0_bollardTension_16 : decode cX0_bollardTension 16 = .ok (.getfield 35, 3) := by decide +kernel
theorem dX0_bollardTension_19 : decode cX0_bollardTension 19 = .ok (.iload 5, 2) := by decide +kernel
theorem dX0_bollardTension_21 : decode cX0_bollardTension 21 = .ok (.iaload, 1) := by decide +kernel
theorem dX0_bollardTension_22 : decode cX0_bollardTension 22 = .ok (.iload_n 1, 1) := by decide +kernel
theorem dX0_bollardTension_23 : decode cX0_bollardTension 23 = .ok (.if_icmp .ne 22, 3) := by decide +kernel
theorem dX0_bollardTension_26 : decode cX0_bollardTension 26 = .ok (.iload 4, 2) := by decide +kernel
theorem dX0_bollardTension_28 : decode cX0_bollardTension 28 = .ok (.aload_n 0, 1) := by decide +kernel
theorem dX0_bollardTension_29 : decode cX0_bollardTension 29 = .ok (.iload 5, 2) := by decide +kernel
theorem dX0_bollardTension_31 : decode cX0_bollardTension 31 = .ok (.aload_n 0, 1) := by decide +kernel
theorem dX0_bollardTension_32 : decode cX0_bollardTension 32 = .ok (.iload 5, 2) := by decide +kernel
theorem dX0_bollardTension_34 : decode cX0_bollardTension 34 = .ok (.iload_n 2, 1) := by decide +kernel
theorem dX0_bollardTension_35 : decode cX0_bollardTension 35 = .ok (.iload_n 3, 1) := by decide +kernel
theorem dX0_bollardTension_36 : decode cX0_bollardTension 36 = .ok (.invokevirtual 97, 3) := by decide +kernel
theorem dX0_bollardTension_39 : decode cX0_bollardTension 39 = .ok (.invokevirtual 101, 3) := by decide +kernel
theorem dX0_bollardTension_42 : decode cX0_bollardTension 42 = .ok (.iadd, 1) := by decide +kernel
theorem dX0_bollardTension_43 : decode cX0_bollardTension 43 = .ok (.istore 4, 2) := by decide +kernel
theorem dX0_bollardTension_45 : decode cX0_bollardTension 45 = .ok (.iinc 5 1, 3) := by decide +kernel
theorem dX0_bollardTension_48 : decode cX0_bollardTension 48 = .ok (.goto (-42), 3) := by decide +kernel
theorem dX0_bollardTension_51 : decode cX0_bollardTension 51 = .ok (.iload 4, 2) := by decide +kernel
theorem dX0_bollardTension_53 : decode cX0_bollardTension 53 = .ok (.ireturn, 1) := by decide +kernel
set_option maxRecDepth 20000 in
theorem ggX0_forceWith_X0_pullWith : GoodIn wsX0_forceWith wsX0_pullWith := goodIn_r _ [8, 9, 10, 11, 12, 7, 13, 14, 15, 16, 17, 18, 19, 20, 21, 22, 23, 24, 25, 26, 27, 28, 29, 30, 31, 32, 33, 34, 35, 36, 37, 38, 39, 40, 41, 42, 43, 44] (by decide +kernel) (by decide +kernel)
set_option maxRecDepth 20000 in
theorem gX0_forceWith_X0_pullWith : GoodIn wsX0_forceWith (wsV RX0 149 RX0 yX0_pullWith wsX0_pullWith) := goodIn_app (goodIn_of _ (by decide +kernel)) ggX0_forceWith_X0_pullWith
theorem dX0_forceWith_0 : decode cX0_forceWith 0 = .ok (.aload_n 0, 1) := by decide +kernel
theorem dX0_forceWith_1 : decode cX0_forceWith 1 = .ok (.getfield 19, 3) := by decide +kernel
theorem dX0_forceWith_4 : decode cX0_forceWith 4 = .ok (.aload_n 0, 1) := by decide +kernel
theorem dX0_forceWith_5 : decode cX0_forceWith 5 = .ok (.getfield 16, 3) := by decide +kernel
theorem dX0_forceWith_8 : decode cX0_forceWith 8 = .ok (.iload_n 1, 1) := by decide +kernel
theorem dX0_forceWith_9 : decode cX0_forceWith 9 = .ok (.iaload, 1) := by decide +kernel
theorem dX0_forceWith_10 : decode cX0_forceWith 10 = .ok (.iadd, 1) := by decide +kernel
theorem dX0_forceWith_11 : decode cX0_forceWith 11 = .ok (.istore_n 3, 1) := by decide +kernel
theorem dX0_forceWith_12 : decode cX0_forceWith 12 = .ok (.iconst 0, 1) := by decide +kernel
theorem dX0_forceWith_13 : decode cX0_forceWith 13 = .ok (.istore 4, 2) := by decide +kernel
theorem dX0_forceWith_15 : decode cX0_forceWith 15 = .ok (.iload 4, 2) := by decide +kernel
theorem dX0_forceWith_17 : decode cX0_forceWith 17 = .ok (.aload_n 0, 1) := by decide +kernel
theorem dX0_forceWith_18 : decode cX0_forceWith 18 = .ok (.getfield 32, 3) := by decide +kernel
theorem dX0_forceWith_21 : decode cX0_forceWith 21 = .ok (.if_icmp .ge 20, 3) := by decide +kernel
theorem dX0_forceWith_24 : decode cX0_forceWith 24 = .ok (.iload_n 3, 1) := by decide +kernel
theorem dX0_forceWith_25 : decode cX0_forceWith 25 = .ok (.aload_n 0, 1) := by decide +kernel
theorem dX0_forceWith_26 : decode cX0_forceWith 26 = .ok (.iload 4, 2) := by decide +kernel
theorem dX0_forceWith_28 : decode cX0_forceWith 28 = .ok (.iload_n 1, 1) := by decide +kernel
theorem dX0_forceWith_29 : decode cX0_forceWith 29 = .ok (.iload_n 2, 1) := by decide +kernel
theorem dX0_forceWith_30 : decode cX0_forceWith 30 = .ok (.invokevirtual 149, 3) := by decide +kernel
theorem dX0_forceWith_33 : decode cX0_forceWith 33 = .ok (.iadd, 1) := by decide +kernel
theorem dX0_forceWith_34 : decode cX0_forceWith 34 = .ok (.istore_n 3, 1) := by decide +kernel
theorem dX0_forceWith_35 : decode cX0_forceWith 35 = .ok (.iinc 4 1, 3) := by decide +kernel
theorem dX0_forceWith_38 : decode cX0_forceWith 38 = .ok (.goto (-23), 3) := by decide +kernel
theorem dX0_forceWith_41 : decode cX0_forceWith 41 = .ok (.iload_n 3, 1) := by decide +kernel
theorem dX0_forceWith_42 : decode cX0_forceWith 42 = .ok (.ireturn, 1) := by decide +kernel
set_option maxRecDepth 20000 in
theorem ggX0_balanceOf_J9_floorDiv_7cf53 : GoodIn wsX0_balanceOf wsJ9_floorDiv_7cf53 := goodIn_r _ [4] (by decide +kernel) (by decide +kernel)
set_option maxRecDepth 20000 in
theorem gX0_balanceOf_J9_floorDiv_7cf53 : GoodIn wsX0_balanceOf (va_wsS RX0 152 yJ9_floorDiv_7cf53 wsJ9_floorDiv_7cf53) := goodIn_app (goodIn_of _ (by decide +kernel)) ggX0_balanceOf_J9_floorDiv_7cf53
set_option maxRecDepth 20000 in
theorem ggX0_balanceOf_X0_forceWith : GoodIn wsX0_balanceOf wsX0_forceWith := goodIn_r _ [9, 10, 11, 12, 13, 14, 15, 8, 16, 17, 18, 19, 20, 21, 22, 23, 24, 25, 26, 27, 28, 29, 30, 31, 32, 33, 34, 35, 36, 37, 38, 39, 40, 41, 42, 43, 44, 45, 46, 47, 48, 49, 50, 51, 52] (by decide +kernel) (by decide +kernel)
set_option maxRecDepth 20000 in
theorem gX0_balanceOf_X0_forceWith : GoodIn wsX0_balanceOf (wsV RX0 86 RX0 yX0_forceWith wsX0_forceWith) := goodIn_app (goodIn_of _ (by decide +kernel)) ggX0_balanceOf_X0_forceWith
theorem dX0_balanceOf_0 : decode cX0_balanceOf 0 = .ok (.sipush (-200), 3) := by decide +kernel
theorem dX0_balanceOf_3 : decode cX0_balanceOf 3 = .ok (.istore_n 2, 1) := by decide +kernel
theorem dX0_balanceOf_4 : decode cX0_balanceOf 4 = .ok (.sipush 200, 3) := by decide +kernel
theorem dX0_balanceOf_7 : decode cX0_balanceOf 7 = .ok (.istore_n 3, 1) := by decide +kernel
theorem dX0_balanceOf_8 : decode cX0_balanceOf 8 = .ok (.iconst 0, 1) := by decide +kernel
theorem dX0_balanceOf_9 : decode cX0_balanceOf 9 = .ok (.istore 4, 2) := by decide +kernel
theorem dX0_balanceOf_11 : decode cX0_balanceOf 11 = .ok (.iload_n 2, 1) := by decide +kernel
theorem dX0_balanceOf_12 : decode cX0_balanceOf 12 = .ok (.iload_n 3, 1) := by decide +kernel
theorem dX0_balanceOf_13 : decode cX0_balanceOf 13 = .ok (.if_icmp .ge 47, 3) := by decide +kernel
theorem dX0_balanceOf_16 : decode cX0_balanceOf 16 = .ok (.iload 4, 2) := by decide +kernel
theorem dX0_balanceOf_18 : decode cX0_balanceOf 18 = .ok (.sipush 401, 3) := by decide +kernel
theorem dX0_balanceOf_21 : decode cX0_balanceOf 21 = .ok (.if_icmp .ge 39, 3) := by decide +kernel
theorem dX0_balanceOf_24 : decode cX0_balanceOf 24 = .ok (.iload_n 2, 1) := by decide +kernel
theorem dX0_balanceOf_25 : decode cX0_balanceOf 25 = .ok (.iload_n 3, 1) := by decide +kernel
theorem dX0_balanceOf_26 : decode cX0_balanceOf 26 = .ok (.iadd, 1) := by decide +kernel
theorem dX0_balanceOf_27 : decode cX0_balanceOf 27 = .ok (.iconst 2, 1) := by decide +kernel
theorem dX0_balanceOf_28 : decode cX0_balanceOf 28 = .ok (.invokestatic 152, 3) := by decide +kernel
theorem dX0_balanceOf_31 : decode cX0_balanceOf 31 = .ok (.istore 5, 2) := by decide +kernel
theorem dX0_balanceOf_33 : decode cX0_balanceOf 33 = .ok (.aload_n 0, 1) := by decide +kernel
theorem dX0_balanceOf_34 : decode cX0_balanceOf 34 = .ok (.iload_n 1, 1) := by decide +kernel
theorem dX0_balanceOf_35 : decode cX0_balanceOf 35 = .ok (.iload 5, 2) := by decide +kernel
theorem dX0_balanceOf_37 : decode cX0_balanceOf 37 = .ok (.invokevirtual 86, 3) := by decide +kernel
theorem dX0_balanceOf_40 : decode cX0_balanceOf 40 = .ok (.ifCond .le 11, 3) := by decide +kernel
theorem dX0_balanceOf_43 : decode cX0_balanceOf 43 = .ok (.iload 5, 2) := by decide +kernel
theorem dX0_balanceOf_45 : decode cX0_balanceOf 45 = .ok (.iconst 1, 1) := by decide +kernel
theorem dX0_balanceOf_46 : decode cX0_balanceOf 46 = .ok (.iadd, 1) := by decide +kernel
theorem dX0_balanceOf_47 : decode cX0_balanceOf 47 = .ok (.istore_n 2, 1) := by decide +kernel
theorem dX0_balanceOf_48 : decode cX0_balanceOf 48 = .ok (.goto 6, 3) := by decide +kernel
theorem dX0_balanceOf_51 : decode cX0_balanceOf 51 = .ok (.iload 5, 2) := by decide +kernel
theorem dX0_balanceOf_53 : decode cX0_balanceOf 53 = .ok (.istore_n 3, 1) := by decide +kernel
theorem dX0_balanceOf_54 : decode cX0_balanceOf 54 = .ok (.iinc 4 1, 3) := by decide +kernel
theorem dX0_balanceOf_57 : decode cX0_balanceOf 57 = .ok (.goto (-46), 3) := by decide +kernel
theorem dX0_balanceOf_60 : decode cX0_balanceOf 60 = .ok (.iload_n 2, 1) := by decide +kernel
theorem dX0_balanceOf_61 : decode cX0_balanceOf 61 = .ok (.ireturn, 1) := by decide +kernel
set_option maxRecDepth 20000 in
theorem ggX0_driftsWith_X0_forceWith : GoodIn wsX0_driftsWith wsX0_forceWith := goodIn_r _ [5, 6, 7, 8, 9, 10, 11, 4, 12, 13, 14, 15, 16, 17, 18, 19, 20, 21, 22, 23, 24, 25, 26, 27, 28, 29, 30, 31, 32, 33, 34, 35, 36, 37, 38, 39, 40, 41, 42, 43, 44, 45, 46, 47, 48] (by decide +kernel) (by decide +kernel)
set_option maxRecDepth 20000 in
theorem gX0_driftsWith_X0_forceWith : GoodIn wsX0_driftsWith (wsV RX0 86 RX0 yX0_forceWith wsX0_forceWith) := goodIn_app (goodIn_of _ (by decide +kernel)) ggX0_driftsWith_X0_forceWith
theorem dX0_driftsWith_0 : decode cX0_driftsWith 0 = .ok (.iload_n 2, 1) := by decide +kernel
theorem dX0_driftsWith_1 : decode cX0_driftsWith 1 = .ok (.sipush 200, 3) := by decide +kernel
theorem dX0_driftsWith_4 : decode cX0_driftsWith 4 = .ok (.if_icmp .ne 18, 3) := by decide +kernel
theorem dX0_driftsWith_7 : decode cX0_driftsWith 7 = .ok (.aload_n 0, 1) := by decide +kernel
theorem dX0_driftsWith_8 : decode cX0_driftsWith 8 = .ok (.iload_n 1, 1) := by decide +kernel
theorem dX0_driftsWith_9 : decode cX0_driftsWith 9 = .ok (.iload_n 2, 1) := by decide +kernel
theorem dX0_driftsWith_10 : decode cX0_driftsWith 10 = .ok (.invokevirtual 86, 3) := by decide +kernel
theorem dX0_driftsWith_13 : decode cX0_driftsWith 13 = .ok (.ifCond .le 7, 3) := by decide +kernel
theorem dX0_driftsWith_16 : decode cX0_driftsWith 16 = .ok (.iconst 1, 1) := by decide +kernel
theorem dX0_driftsWith_17 : decode cX0_driftsWith 17 = .ok (.goto 4, 3) := by decide +kernel
theorem dX0_driftsWith_20 : decode cX0_driftsWith 20 = .ok (.iconst 0, 1) := by decide +kernel
theorem dX0_driftsWith_21 : decode cX0_driftsWith 21 = .ok (.ireturn, 1) := by decide +kernel
theorem dX0_driftsWith_22 : decode cX0_driftsWith 22 = .ok (.iload_n 2, 1) := by decide +kernel
theorem dX0_driftsWith_23 : decode cX0_driftsWith 23 = .ok (.sipush (-200), 3) := by decide +kernel
theorem dX0_driftsWith_26 : decode cX0_driftsWith 26 = .ok (.if_icmp .ne 18, 3) := by decide +kernel
theorem dX0_driftsWith_29 : decode cX0_driftsWith 29 = .ok (.aload_n 0, 1) := by decide +kernel
theorem dX0_driftsWith_30 : decode cX0_driftsWith 30 = .ok (.iload_n 1, 1) := by decide +kernel
theorem dX0_driftsWith_31 : decode cX0_driftsWith 31 = .ok (.iload_n 2, 1) := by decide +kernel
theorem dX0_driftsWith_32 : decode cX0_driftsWith 32 = .ok (.invokevirtual 86, 3) := by decide +kernel
theorem dX0_driftsWith_35 : decode cX0_driftsWith 35 = .ok (.ifCond .ge 7, 3) := by decide +kernel
theorem dX0_driftsWith_38 : decode cX0_driftsWith 38 = .ok (.iconst 1, 1) := by decide +kernel
theorem dX0_driftsWith_39 : decode cX0_driftsWith 39 = .ok (.goto 4, 3) := by decide +kernel
theorem dX0_driftsWith_42 : decode cX0_driftsWith 42 = .ok (.iconst 0, 1) := by decide +kernel
theorem dX0_driftsWith_43 : decode cX0_driftsWith 43 = .ok (.ireturn, 1) := by decide +kernel
theorem dX0_driftsWith_44 : decode cX0_driftsWith 44 = .ok (.iconst 0, 1) := by decide +kernel
theorem dX0_driftsWith_45 : decode cX0_driftsWith 45 = .ok (.ireturn, 1) := by decide +kernel
set_option maxRecDepth 20000 in
theorem ggX0_holdsIn_X0_balanceOf : GoodIn wsX0_holdsIn wsX0_balanceOf := goodIn_r _ [5, 6, 7, 8, 9, 10, 11, 12, 4, 13, 14, 15, 16, 17, 18, 19, 20, 21, 22, 23, 24, 25, 26, 27, 28, 29, 30, 31, 32, 33, 34, 35, 36, 37, 38, 39, 40, 41, 66, 67, 68, 69, 70, 71, 72, 73, 74, 75, 76, 77, 78, 79, 80] (by decide +kernel) (by decide +kernel)
set_option maxRecDepth 20000 in
theorem gX0_holdsIn_X0_balanceOf : GoodIn wsX0_holdsIn (wsV RX0 89 RX0 yX0_balanceOf wsX0_balanceOf) := goodIn_app (goodIn_of _ (by decide +kernel)) ggX0_holdsIn_X0_balanceOf
set_option maxRecDepth 20000 in
theorem ggX0_holdsIn_X0_driftsWith : GoodIn wsX0_holdsIn wsX0_driftsWith := goodIn_r _ [45, 10, 11, 12, 4, 13, 14, 15, 16, 17, 18, 19, 20, 21, 22, 23, 24, 25, 26, 27, 28, 29, 30, 31, 32, 33, 34, 35, 36, 37, 38, 39, 40, 41, 66, 67, 68, 69, 70, 71, 72, 73, 74, 75, 76, 77, 78, 79, 80] (by decide +kernel) (by decide +kernel)
set_option maxRecDepth 20000 in
theorem gX0_holdsIn_X0_driftsWith : GoodIn wsX0_holdsIn (wsV RX0 93 RX0 yX0_driftsWith wsX0_driftsWith) := goodIn_app (goodIn_of _ (by decide +kernel)) ggX0_holdsIn_X0_driftsWith
set_option maxRecDepth 20000 in
theorem ggX0_holdsIn_X0_linesHold : GoodIn wsX0_holdsIn wsX0_linesHold := goodIn_r _ [49, 16, 50, 51, 52, 53, 4, 54, 21, 22, 23, 24, 25, 26, 27, 28, 29, 30, 31, 32, 33, 34, 35, 36, 37, 38, 39, 40, 41, 66, 67, 68, 69, 70, 71, 72, 73, 74, 75, 76, 77, 78, 79, 80] (by decide +kernel) (by decide +kernel)
set_option maxRecDepth 20000 in
theorem gX0_holdsIn_X0_linesHold : GoodIn wsX0_holdsIn (wsV RX0 155 RX0 yX0_linesHold wsX0_linesHold) := goodIn_app (goodIn_of _ (by decide +kernel)) ggX0_holdsIn_X0_linesHold
set_option maxRecDepth 20000 in
theorem ggX0_holdsIn_X0_bollardsHold : GoodIn wsX0_holdsIn wsX0_bollardsHold := goodIn_r _ [58, 59, 60, 61, 62, 63, 4, 64, 16, 65, 51, 52, 53, 54, 21, 22, 23, 24, 25, 26, 27, 28, 29, 30, 31, 32, 33, 34, 35, 36, 37, 38, 39, 40, 41, 66, 67, 68, 69, 70, 71, 72, 73, 74, 75, 76, 77, 78, 79, 80] (by decide +kernel) (by decide +kernel)
set_option maxRecDepth 20000 in
theorem gX0_holdsIn_X0_bollardsHold : GoodIn wsX0_holdsIn (wsV RX0 158 RX0 yX0_bollardsHold wsX0_bollardsHold) := goodIn_app (goodIn_of _ (by decide +kernel)) ggX0_holdsIn_X0_bollardsHold
theorem dX0_holdsIn_0 : decode cX0_holdsIn 0 = .ok (.aload_n 0, 1) := by decide +kernel
theorem dX0_holdsIn_1 : decode cX0_holdsIn 1 = .ok (.iload_n 1, 1) := by decide +kernel
theorem dX0_holdsIn_2 : decode cX0_holdsIn 2 = .ok (.invokevirtual 89, 3) := by decide +kernel
theorem dX0_holdsIn_5 : decode cX0_holdsIn 5 = .ok (.istore_n 2, 1) := by decide +kernel
theorem dX0_holdsIn_6 : decode cX0_holdsIn 6 = .ok (.aload_n 0, 1) := by decide +kernel
theorem dX0_holdsIn_7 : decode cX0_holdsIn 7 = .ok (.iload_n 1, 1) := by decide +kernel
theorem dX0_holdsIn_8 : decode cX0_holdsIn 8 = .ok (.iload_n 2, 1) := by decide +kernel
theorem dX0_holdsIn_9 : decode cX0_holdsIn 9 = .ok (.invokevirtual 93, 3) := by decide +kernel
theorem dX0_holdsIn_12 : decode cX0_holdsIn 12 = .ok (.ifCond .ne 25, 3) := by decide +kernel
theorem dX0_holdsIn_15 : decode cX0_holdsIn 15 = .ok (.aload_n 0, 1) := by decide +kernel
theorem dX0_holdsIn_16 : decode cX0_holdsIn 16 = .ok (.iload_n 1, 1) := by decide +kernel
theorem dX0_holdsIn_17 : decode cX0_holdsIn 17 = .ok (.iload_n 2, 1) := by decide +kernel
theorem dX0_holdsIn_18 : decode cX0_holdsIn 18 = .ok (.invokevirtual 155, 3) := by decide +kernel
theorem dX0_holdsIn_21 : decode cX0_holdsIn 21 = .ok (.ifCond .eq 16, 3) := by decide +kernel
theorem dX0_holdsIn_24 : decode cX0_holdsIn 24 = .ok (.aload_n 0, 1) := by decide +kernel
theorem dX0_holdsIn_25 : decode cX0_holdsIn 25 = .ok (.iload_n 1, 1) := by decide +kernel
theorem dX0_holdsIn_26 : decode cX0_holdsIn 26 = .ok (.iload_n 2, 1) := by decide +kernel
theorem dX0_holdsIn_27 : decode cX0_holdsIn 27 = .ok (.invokevirtual 158, 3) := by decide +kernel
theorem dX0_holdsIn_30 : decode cX0_holdsIn 30 = .ok (.ifCond .eq 7, 3) := by decide +kernel
theorem dX0_holdsIn_33 : decode cX0_holdsIn 33 = .ok (.iconst 1, 1) := by decide +kernel
theorem dX0_holdsIn_34 : decode cX0_holdsIn 34 = .ok (.goto 4, 3) := by decide +kernel
theorem dX0_holdsIn_37 : decode cX0_holdsIn 37 = .ok (.iconst 0, 1) := by decide +kernel
theorem dX0_holdsIn_38 : decode cX0_holdsIn 38 = .ok (.ireturn, 1) := by decide +kernel
set_option maxRecDepth 20000 in
theorem ggX0_linesHold_X0_lengthWith : GoodIn wsX0_linesHold wsX0_lengthWith := goodIn_r _ [7, 8, 9, 10, 11, 6, 12, 13, 14, 15, 16, 17, 29, 30, 31, 32, 33, 34, 35, 36, 37, 38, 39, 40, 41, 42, 43] (by decide +kernel) (by decide +kernel)
set_option maxRecDepth 20000 in
theorem gX0_linesHold_X0_lengthWith : GoodIn wsX0_linesHold (wsV RX0 97 RX0 yX0_lengthWith wsX0_lengthWith) := goodIn_app (goodIn_of _ (by decide +kernel)) ggX0_linesHold_X0_lengthWith
set_option maxRecDepth 20000 in
theorem ggX0_linesHold_X0_tensionAtLength : GoodIn wsX0_linesHold wsX0_tensionAtLength := goodIn_r _ [21, 22, 23, 24, 25, 26, 27, 28, 29, 30, 31, 32, 33, 34, 35, 36, 37, 38, 39, 40, 41, 42, 43] (by decide +kernel) (by decide +kernel)
set_option maxRecDepth 20000 in
theorem gX0_linesHold_X0_tensionAtLength : GoodIn wsX0_linesHold (wsV RX0 101 RX0 yX0_tensionAtLength wsX0_tensionAtLength) := goodIn_app (goodIn_of _ (by decide +kernel)) ggX0_linesHold_X0_tensionAtLength
theorem dX0_linesHold_0 : decode cX0_linesHold 0 = .ok (.iconst 0, 1) := by decide +kernel
theorem dX0_linesHold_1 : decode cX0_linesHold 1 = .ok (.istore_n 3, 1) := by decide +kernel
theorem dX0_linesHold_2 : decode cX0_linesHold 2 = .ok (.iload_n 3, 1) := by decide +kernel
theorem dX0_linesHold_3 : decode cX0_linesHold 3 = .ok (.aload_n 0, 1) := by decide +kernel
theorem dX0_linesHold_4 : decode cX0_linesHold 4 = .ok (.getfield 32, 3) := by decide +kernel
theorem dX0_linesHold_7 : decode cX0_linesHold 7 = .ok (.if_icmp .ge 42, 3) := by decide +kernel
theorem dX0_linesHold_10 : decode cX0_linesHold 10 = .ok (.aload_n 0, 1) := by decide +kernel
theorem dX0_linesHold_11 : decode cX0_linesHold 11 = .ok (.iload_n 3, 1) := by decide +kernel
theorem dX0_linesHold_12 : decode cX0_linesHold 12 = .ok (.aload_n 0, 1) := by decide +kernel
theorem dX0_linesHold_13 : decode cX0_linesHold 13 = .ok (.iload_n 3, 1) := by decide +kernel
theorem dX0_linesHold_14 : decode cX0_linesHold 14 = .ok (.iload_n 1, 1) := by decide +kernel
theorem dX0_linesHold_15 : decode cX0_linesHold 15 = .ok (.iload_n 2, 1) := by decide +kernel
theorem dX0_linesHold_16 : decode cX0_linesHold 16 = .ok (.invokevirtual 97, 3) := by decide +kernel
theorem dX0_linesHold_19 : decode cX0_linesHold 19 = .ok (.invokevirtual 101, 3) := by decide +kernel
theorem dX0_linesHold_22 : decode cX0_linesHold 22 = .ok (.istore 4, 2) := by decide +kernel
theorem dX0_linesHold_24 : decode cX0_linesHold 24 = .ok (.iload 4, 2) := by decide +kernel
theorem dX0_linesHold_26 : decode cX0_linesHold 26 = .ok (.bipush 100, 2) := by decide +kernel
theorem dX0_linesHold_28 : decode cX0_linesHold 28 = .ok (.imul, 1) := by decide +kernel
theorem dX0_linesHold_29 : decode cX0_linesHold 29 = .ok (.aload_n 0, 1) := by decide +kernel
theorem dX0_linesHold_30 : decode cX0_linesHold 30 = .ok (.getfield 44, 3) := by decide +kernel
theorem dX0_linesHold_33 : decode cX0_linesHold 33 = .ok (.iload_n 3, 1) := by decide +kernel
theorem dX0_linesHold_34 : decode cX0_linesHold 34 = .ok (.iaload, 1) := by decide +kernel
theorem dX0_linesHold_35 : decode cX0_linesHold 35 = .ok (.bipush 55, 2) := by decide +kernel
theorem dX0_linesHold_37 : decode cX0_linesHold 37 = .ok (.imul, 1) := by decide +kernel
theorem dX0_linesHold_38 : decode cX0_linesHold 38 = .ok (.if_icmp .le 5, 3) := by decide +kernel
theorem dX0_linesHold_41 : decode cX0_linesHold 41 = .ok (.iconst 0, 1) := by decide +kernel
theorem dX0_linesHold_42 : decode cX0_linesHold 42 = .ok (.ireturn, 1) := by decide +kernel
theorem dX0_linesHold_43 : decode cX0_linesHold 43 = .ok (.iinc 3 1, 3) := by decide +kernel
theorem dX0_linesHold_46 : decode cX0_linesHold 46 = .ok (.goto (-44), 3) := by decide +kernel
theorem dX0_linesHold_49 : decode cX0_linesHold 49 = .ok (.iconst 1, 1) := by decide +kernel
theorem dX0_linesHold_50 : decode cX0_linesHold 50 = .ok (.ireturn, 1) := by decide +kernel
set_option maxRecDepth 20000 in
theorem ggX0_bollardsHold_X0_bollardTension : GoodIn wsX0_bollardsHold wsX0_bollardTension := goodIn_r _ [7, 8, 9, 10, 11, 12, 6, 13, 14, 15, 16, 17, 18, 19, 20, 21, 22, 23, 24, 25, 26, 27, 28, 29, 30, 31, 32, 33, 34, 35, 36, 37, 38, 39, 40, 41, 42, 43, 44, 45, 46, 47, 48, 49] (by decide +kernel) (by decide +kernel)
set_option maxRecDepth 20000 in
theorem gX0_bollardsHold_X0_bollardTension : GoodIn wsX0_bollardsHold (wsV RX0 104 RX0 yX0_bollardTension wsX0_bollardTension) := goodIn_app (goodIn_of _ (by decide +kernel)) ggX0_bollardsHold_X0_bollardTension
theorem dX0_bollardsHold_0 : decode cX0_bollardsHold 0 = .ok (.iconst 0, 1) := by decide +kernel
theorem dX0_bollardsHold_1 : decode cX0_bollardsHold 1 = .ok (.istore_n 3, 1) := by decide +kernel
theorem dX0_bollardsHold_2 : decode cX0_bollardsHold 2 = .ok (.iload_n 3, 1) := by decide +kernel
theorem dX0_bollardsHold_3 : decode cX0_bollardsHold 3 = .ok (.aload_n 0, 1) := by decide +kernel
theorem dX0_bollardsHold_4 : decode cX0_bollardsHold 4 = .ok (.getfield 23, 3) := by decide +kernel
theorem dX0_bollardsHold_7 : decode cX0_bollardsHold 7 = .ok (.if_icmp .ge 27, 3) := by decide +kernel
theorem dX0_bollardsHold_10 : decode cX0_bollardsHold 10 = .ok (.aload_n 0, 1) := by decide +kernel
theorem dX0_bollardsHold_11 : decode cX0_bollardsHold 11 = .ok (.iload_n 3, 1) := by decide +kernel
theorem dX0_bollardsHold_12 : decode cX0_bollardsHold 12 = .ok (.iload_n 1, 1) := by decide +kernel
theorem dX0_bollardsHold_13 : decode cX0_bollardsHold 13 = .ok (.iload_n 2, 1) := by decide +kernel
theorem dX0_bollardsHold_14 : decode cX0_bollardsHold 14 = .ok (.invokevirtual 104, 3) := by decide +kernel
theorem dX0_bollardsHold_17 : decode cX0_bollardsHold 17 = .ok (.aload_n 0, 1) := by decide +kernel
theorem dX0_bollardsHold_18 : decode cX0_bollardsHold 18 = .ok (.getfield 29, 3) := by decide +kernel
theorem dX0_bollardsHold_21 : decode cX0_bollardsHold 21 = .ok (.iload_n 3, 1) := by decide +kernel
theorem dX0_bollardsHold_22 : decode cX0_bollardsHold 22 = .ok (.iaload, 1) := by decide +kernel
theorem dX0_bollardsHold_23 : decode cX0_bollardsHold 23 = .ok (.if_icmp .le 5, 3) := by decide +kernel
theorem dX0_bollardsHold_26 : decode cX0_bollardsHold 26 = .ok (.iconst 0, 1) := by decide +kernel
theorem dX0_bollardsHold_27 : decode cX0_bollardsHold 27 = .ok (.ireturn, 1) := by decide +kernel
theorem dX0_bollardsHold_28 : decode cX0_bollardsHold 28 = .ok (.iinc 3 1, 3) := by decide +kernel
theorem dX0_bollardsHold_31 : decode cX0_bollardsHold 31 = .ok (.goto (-29), 3) := by decide +kernel
theorem dX0_bollardsHold_34 : decode cX0_bollardsHold 34 = .ok (.iconst 1, 1) := by decide +kernel
theorem dX0_bollardsHold_35 : decode cX0_bollardsHold 35 = .ok (.ireturn, 1) := by decide +kernel
set_option maxRecDepth 20000 in
theorem ggX0_tendFastLines_X0_balanceOf : GoodIn wsX0_tendFastLines wsX0_balanceOf := goodIn_r _ [8, 9, 10, 11, 12, 13, 14, 15, 7, 16, 17, 18, 1, 19, 20, 21, 22, 23, 24, 25, 26, 27, 28, 29, 30, 31, 32, 33, 34, 35, 36, 2, 37, 3, 38, 39, 40, 41, 46, 47, 48, 49, 50, 51, 52, 53, 54, 55, 56, 57, 58, 59, 60] (by decide +kernel) (by decide +kernel)
set_option maxRecDepth 20000 in
theorem gX0_tendFastLines_X0_balanceOf : GoodIn wsX0_tendFastLines (wsV RX0 89 RX0 yX0_balanceOf wsX0_balanceOf) := goodIn_app (goodIn_of _ (by decide +kernel)) ggX0_tendFastLines_X0_balanceOf
set_option maxRecDepth 20000 in
theorem ggX0_tendFastLines_X0_lengthWith : GoodIn wsX0_tendFastLines wsX0_lengthWith := goodIn_r _ [45, 23, 24, 25, 26, 7, 27, 28, 29, 30, 31, 32, 46, 47, 48, 49, 50, 51, 52, 53, 54, 55, 56, 57, 58, 59, 60] (by decide +kernel) (by decide +kernel)
set_option maxRecDepth 20000 in
theorem gX0_tendFastLines_X0_lengthWith : GoodIn wsX0_tendFastLines (wsV RX0 97 RX0 yX0_lengthWith wsX0_lengthWith) := goodIn_app (goodIn_of _ (by decide +kernel)) ggX0_tendFastLines_X0_lengthWith
theorem dX0_tendFastLines_0 : decode cX0_tendFastLines 0 = .ok (.aload_n 0, 1) := by decide +kernel
theorem dX0_tendFastLines_1 : decode cX0_tendFastLines 1 = .ok (.iload_n 1, 1) := by decide +kernel
theorem dX0_tendFastLines_2 : decode cX0_tendFastLines 2 = .ok (.invokevirtual 89, 3) := by decide +kernel
theorem dX0_tendFastLines_5 : decode cX0_tendFastLines 5 = .ok (.istore_n 2, 1) := by decide +kernel
theorem dX0_tendFastLines_6 : decode cX0_tendFastLines 6 = .ok (.iconst 0, 1) := by decide +kernel
theorem dX0_tendFastLines_7 : decode cX0_tendFastLines 7 = .ok (.istore_n 3, 1) := by decide +kernel
theorem dX0_tendFastLines_8 : decode cX0_tendFastLines 8 = .ok (.iconst 0, 1) := by decide +kernel
theorem dX0_tendFastLines_9 : decode cX0_tendFastLines 9 = .ok (.istore 4, 2) := by decide +kernel
theorem dX0_tendFastLines_11 : decode cX0_tendFastLines 11 = .ok (.iload 4, 2) := by decide +kernel
theorem dX0_tendFastLines_13 : decode cX0_tendFastLines 13 = .ok (.aload_n 0, 1) := by decide +kernel
theorem dX0_tendFastLines_14 : decode cX0_tendFastLines 14 = .ok (.getfield 32, 3) := by decide +kernel
theorem dX0_tendFastLines_17 : decode cX0_tendFastLines 17 = .ok (.if_icmp .ge 63, 3) := by decide +kernel
theorem dX0_tendFastLines_20 : decode cX0_tendFastLines 20 = .ok (.aload_n 0, 1) := by decide +kernel
theorem dX0_tendFastLines_21 : decode cX0_tendFastLines 21 = .ok (.getfield 50, 3) := by decide +kernel
theorem dX0_tendFastLines_24 : decode cX0_tendFastLines 24 = .ok (.iload 4, 2) := by decide +kernel
theorem dX0_tendFastLines_26 : decode cX0_tendFastLines 26 = .ok (.baload, 1) := by decide +kernel
theorem dX0_tendFastLines_27 : decode cX0_tendFastLines 27 = .ok (.ifCond .eq 47, 3) := by decide +kernel
theorem dX0_tendFastLines_30 : decode cX0_tendFastLines 30 = .ok (.aload_n 0, 1) := by decide +kernel
theorem dX0_tendFastLines_31 : decode cX0_tendFastLines 31 = .ok (.getfield 47, 3) := by decide +kernel
theorem dX0_tendFastLines_34 : decode cX0_tendFastLines 34 = .ok (.iload 4, 2) := by decide +kernel
theorem dX0_tendFastLines_36 : decode cX0_tendFastLines 36 = .ok (.iaload, 1) := by decide +kernel
theorem dX0_tendFastLines_37 : decode cX0_tendFastLines 37 = .ok (.istore 5, 2) := by decide +kernel
theorem dX0_tendFastLines_39 : decode cX0_tendFastLines 39 = .ok (.aload_n 0, 1) := by decide +kernel
theorem dX0_tendFastLines_40 : decode cX0_tendFastLines 40 = .ok (.getfield 47, 3) := by decide +kernel
theorem dX0_tendFastLines_43 : decode cX0_tendFastLines 43 = .ok (.iload 4, 2) := by decide +kernel
theorem dX0_tendFastLines_45 : decode cX0_tendFastLines 45 = .ok (.aload_n 0, 1) := by decide +kernel
theorem dX0_tendFastLines_46 : decode cX0_tendFastLines 46 = .ok (.iload 4, 2) := by decide +kernel
theorem dX0_tendFastLines_48 : decode cX0_tendFastLines 48 = .ok (.iload_n 1, 1) := by decide +kernel
theorem dX0_tendFastLines_49 : decode cX0_tendFastLines 49 = .ok (.iload_n 2, 1) := by decide +kernel
theorem dX0_tendFastLines_50 : decode cX0_tendFastLines 50 = .ok (.invokevirtual 97, 3) := by decide +kernel
theorem dX0_tendFastLines_53 : decode cX0_tendFastLines 53 = .ok (.iastore, 1) := by decide +kernel
theorem dX0_tendFastLines_54 : decode cX0_tendFastLines 54 = .ok (.iload_n 3, 1) := by decide +kernel
theorem dX0_tendFastLines_55 : decode cX0_tendFastLines 55 = .ok (.aload_n 0, 1) := by decide +kernel
theorem dX0_tendFastLines_56 : decode cX0_tendFastLines 56 = .ok (.getfield 47, 3) := by decide +kernel
theorem dX0_tendFastLines_59 : decode cX0_tendFastLines 59 = .ok (.iload 4, 2) := by decide +kernel
theorem dX0_tendFastLines_61 : decode cX0_tendFastLines 61 = .ok (.iaload, 1) := by decide +kernel
theorem dX0_tendFastLines_62 : decode cX0_tendFastLines 62 = .ok (.iload 5, 2) := by decide +kernel
theorem dX0_tendFastLines_64 : decode cX0_tendFastLines 64 = .ok (.if_icmp .ne 7, 3) := by decide +kernel
theorem dX0_tendFastLines_67 : decode cX0_tendFastLines 67 = .ok (.iconst 0, 1) := by decide +kernel
theorem dX0_tendFastLines_68 : decode cX0_tendFastLines 68 = .ok (.goto 4, 3) := by decide +kernel
theorem dX0_tendFastLines_71 : decode cX0_tendFastLines 71 = .ok (.iconst 1, 1) := by decide +kernel
theorem dX0_tendFastLines_72 : decode cX0_tendFastLines 72 = .ok (.iadd, 1) := by decide +kernel
theorem dX0_tendFastLines_73 : decode cX0_tendFastLines 73 = .ok (.istore_n 3, 1) := by decide +kernel
theorem dX0_tendFastLines_74 : decode cX0_tendFastLines 74 = .ok (.iinc 4 1, 3) := by decide +kernel
theorem dX0_tendFastLines_77 : decode cX0_tendFastLines 77 = .ok (.goto (-66), 3) := by decide +kernel
theorem dX0_tendFastLines_80 : decode cX0_tendFastLines 80 = .ok (.iload_n 3, 1) := by decide +kernel
theorem dX0_tendFastLines_81 : decode cX0_tendFastLines 81 = .ok (.ireturn, 1) := by decide +kernel
set_option maxRecDepth 20000 in
theorem ggX0_tendThrough_X0_holdsIn : GoodIn wsX0_tendThrough wsX0_holdsIn := goodIn_r _ [5, 6, 7, 8, 4, 9, 10, 11, 12, 13, 14, 15, 16, 17, 18, 19, 20, 21, 22, 23, 24, 25, 26, 27, 28, 29, 30, 31, 32, 33, 34, 35, 36, 37, 38, 39, 40, 41, 42, 43, 44, 45, 46, 47, 48, 49, 50, 51, 52, 53, 54, 55, 56, 57, 58, 59, 60, 61, 62, 63, 64, 65, 66, 67, 68, 69, 74, 75, 76, 77, 78, 79, 80, 81, 82, 83, 84, 85, 86, 87, 88] (by decide +kernel) (by decide +kernel)
set_option maxRecDepth 20000 in
theorem gX0_tendThrough_X0_holdsIn : GoodIn wsX0_tendThrough (wsV RX0 107 RX0 yX0_holdsIn wsX0_holdsIn) := goodIn_app (goodIn_of _ (by decide +kernel)) ggX0_tendThrough_X0_holdsIn
set_option maxRecDepth 20000 in
theorem ggX0_tendThrough_X0_tendFastLines : GoodIn wsX0_tendThrough wsX0_tendFastLines := goodIn_r _ [73, 20, 39, 41, 6, 7, 8, 4, 9, 10, 11, 12, 13, 14, 15, 16, 17, 18, 19, 21, 22, 23, 24, 25, 26, 27, 28, 29, 30, 31, 32, 33, 34, 35, 36, 37, 38, 40, 42, 43, 44, 45, 55, 56, 57, 58, 74, 75, 76, 77, 78, 79, 80, 81, 82, 83, 84, 85, 86, 87, 88] (by decide +kernel) (by decide +kernel)
set_option maxRecDepth 20000 in
theorem gX0_tendThrough_X0_tendFastLines : GoodIn wsX0_tendThrough (wsV RX0 118 RX0 yX0_tendFastLines wsX0_tendFastLines) := goodIn_app (goodIn_of _ (by decide +kernel)) ggX0_tendThrough_X0_tendFastLines
theorem dX0_tendThrough_0 : decode cX0_tendThrough 0 = .ok (.iconst 0, 1) := by decide +kernel
theorem dX0_tendThrough_1 : decode cX0_tendThrough 1 = .ok (.istore_n 3, 1) := by decide +kernel
theorem dX0_tendThrough_2 : decode cX0_tendThrough 2 = .ok (.iload_n 1, 1) := by decide +kernel
theorem dX0_tendThrough_3 : decode cX0_tendThrough 3 = .ok (.istore 4, 2) := by decide +kernel
theorem dX0_tendThrough_5 : decode cX0_tendThrough 5 = .ok (.iload 4, 2) := by decide +kernel
theorem dX0_tendThrough_7 : decode cX0_tendThrough 7 = .ok (.iload_n 2, 1) := by decide +kernel
theorem dX0_tendThrough_8 : decode cX0_tendThrough 8 = .ok (.if_icmp .gt 39, 3) := by decide +kernel
theorem dX0_tendThrough_11 : decode cX0_tendThrough 11 = .ok (.aload_n 0, 1) := by decide +kernel
theorem dX0_tendThrough_12 : decode cX0_tendThrough 12 = .ok (.iload 4, 2) := by decide +kernel
theorem dX0_tendThrough_14 : decode cX0_tendThrough 14 = .ok (.invokevirtual 107, 3) := by decide +kernel
theorem dX0_tendThrough_17 : decode cX0_tendThrough 17 = .ok (.ifCond .ne 24, 3) := by decide +kernel
theorem dX0_tendThrough_20 : decode cX0_tendThrough 20 = .ok (.aload_n 0, 1) := by decide +kernel
theorem dX0_tendThrough_21 : decode cX0_tendThrough 21 = .ok (.iload 4, 2) := by decide +kernel
theorem dX0_tendThrough_23 : decode cX0_tendThrough 23 = .ok (.invokevirtual 118, 3) := by decide +kernel
theorem dX0_tendThrough_26 : decode cX0_tendThrough 26 = .ok (.pop, 1) := by decide +kernel
theorem dX0_tendThrough_27 : decode cX0_tendThrough 27 = .ok (.iinc 3 1, 3) := by decide +kernel
theorem dX0_tendThrough_30 : decode cX0_tendThrough 30 = .ok (.aload_n 0, 1) := by decide +kernel
theorem dX0_tendThrough_31 : decode cX0_tendThrough 31 = .ok (.iload 4, 2) := by decide +kernel
theorem dX0_tendThrough_33 : decode cX0_tendThrough 33 = .ok (.invokevirtual 107, 3) := by decide +kernel
theorem dX0_tendThrough_36 : decode cX0_tendThrough 36 = .ok (.ifCond .ne 5, 3) := by decide +kernel
theorem dX0_tendThrough_39 : decode cX0_tendThrough 39 = .ok (.iconst (-1), 1) := by decide +kernel
theorem dX0_tendThrough_40 : decode cX0_tendThrough 40 = .ok (.ireturn, 1) := by decide +kernel
theorem dX0_tendThrough_41 : decode cX0_tendThrough 41 = .ok (.iinc 4 1, 3) := by decide +kernel
theorem dX0_tendThrough_44 : decode cX0_tendThrough 44 = .ok (.goto (-39), 3) := by decide +kernel
theorem dX0_tendThrough_47 : decode cX0_tendThrough 47 = .ok (.iload_n 3, 1) := by decide +kernel
theorem dX0_tendThrough_48 : decode cX0_tendThrough 48 = .ok (.ireturn, 1) := by decide +kernel
theorem dJ9_floorDiv_7cf53_0 : decode cJ9_floorDiv_7cf53 0 = .ok (.iload_n 0, 1) := by decide +kernel
theorem dJ9_floorDiv_7cf53_1 : decode cJ9_floorDiv_7cf53 1 = .ok (.iload_n 1, 1) := by decide +kernel
theorem dJ9_floorDiv_7cf53_2 : decode cJ9_floorDiv_7cf53 2 = .ok (.idiv, 1) := by decide +kernel
theorem dJ9_floorDiv_7cf53_3 : decode cJ9_floorDiv_7cf53 3 = .ok (.istore_n 2, 1) := by decide +kernel
theorem dJ9_floorDiv_7cf53_4 : decode cJ9_floorDiv_7cf53 4 = .ok (.iload_n 0, 1) := by decide +kernel
theorem dJ9_floorDiv_7cf53_5 : decode cJ9_floorDiv_7cf53 5 = .ok (.iload_n 1, 1) := by decide +kernel
theorem dJ9_floorDiv_7cf53_6 : decode cJ9_floorDiv_7cf53 6 = .ok (.ixor, 1) := by decide +kernel
theorem dJ9_floorDiv_7cf53_7 : decode cJ9_floorDiv_7cf53 7 = .ok (.ifCond .ge 14, 3) := by decide +kernel
theorem dJ9_floorDiv_7cf53_10 : decode cJ9_floorDiv_7cf53 10 = .ok (.iload_n 2, 1) := by decide +kernel
theorem dJ9_floorDiv_7cf53_11 : decode cJ9_floorDiv_7cf53 11 = .ok (.iload_n 1, 1) := by decide +kernel
theorem dJ9_floorDiv_7cf53_12 : decode cJ9_floorDiv_7cf53 12 = .ok (.imul, 1) := by decide +kernel
theorem dJ9_floorDiv_7cf53_13 : decode cJ9_floorDiv_7cf53 13 = .ok (.iload_n 0, 1) := by decide +kernel
theorem dJ9_floorDiv_7cf53_14 : decode cJ9_floorDiv_7cf53 14 = .ok (.if_icmp .eq 7, 3) := by decide +kernel
theorem dJ9_floorDiv_7cf53_17 : decode cJ9_floorDiv_7cf53 17 = .ok (.iload_n 2, 1) := by decide +kernel
theorem dJ9_floorDiv_7cf53_18 : decode cJ9_floorDiv_7cf53 18 = .ok (.iconst 1, 1) := by decide +kernel
theorem dJ9_floorDiv_7cf53_19 : decode cJ9_floorDiv_7cf53 19 = .ok (.isub, 1) := by decide +kernel
theorem dJ9_floorDiv_7cf53_20 : decode cJ9_floorDiv_7cf53 20 = .ok (.ireturn, 1) := by decide +kernel
theorem dJ9_floorDiv_7cf53_21 : decode cJ9_floorDiv_7cf53 21 = .ok (.iload_n 2, 1) := by decide +kernel
theorem dJ9_floorDiv_7cf53_22 : decode cJ9_floorDiv_7cf53 22 = .ok (.ireturn, 1) := by decide +kernel
theorem dJ9_max_7cf53_0 : decode cJ9_max_7cf53 0 = .ok (.iload_n 0, 1) := by decide +kernel
theorem dJ9_max_7cf53_1 : decode cJ9_max_7cf53 1 = .ok (.iload_n 1, 1) := by decide +kernel
theorem dJ9_max_7cf53_2 : decode cJ9_max_7cf53 2 = .ok (.if_icmp .lt 7, 3) := by decide +kernel
theorem dJ9_max_7cf53_5 : decode cJ9_max_7cf53 5 = .ok (.iload_n 0, 1) := by decide +kernel
theorem dJ9_max_7cf53_6 : decode cJ9_max_7cf53 6 = .ok (.goto 4, 3) := by decide +kernel
theorem dJ9_max_7cf53_9 : decode cJ9_max_7cf53 9 = .ok (.iload_n 1, 1) := by decide +kernel
theorem dJ9_max_7cf53_10 : decode cJ9_max_7cf53 10 = .ok (.ireturn, 1) := by decide +kernel
theorem dL_from_0 : decode cL_from 0 = .ok (.aload_n 0, 1) := by decide +kernel
theorem dL_from_1 : decode cL_from 1 = .ok (.arraylength, 1) := by decide +kernel
theorem dL_from_2 : decode cL_from 2 = .ok (.ifCond .ne 15, 3) := by decide +kernel
theorem dL_from_5 : decode cL_from 5 = .ok (.sipush 263, 3) := by decide +kernel
theorem dL_from_8 : decode cL_from 8 = .ok (.iload_n 1, 1) := by decide +kernel
theorem dL_from_9 : decode cL_from 9 = .ok (.imul, 1) := by decide +kernel
theorem dL_from_10 : decode cL_from 10 = .ok (.sipush 233, 3) := by decide +kernel
theorem dL_from_13 : decode cL_from 13 = .ok (.iadd, 1) := by decide +kernel
theorem dL_from_14 : decode cL_from 14 = .ok (.goto 14, 3) := by decide +kernel
theorem dL_from_17 : decode cL_from 17 = .ok (.aload_n 0, 1) := by decide +kernel
theorem dL_from_18 : decode cL_from 18 = .ok (.iload_n 1, 1) := by decide +kernel
theorem dL_from_19 : decode cL_from 19 = .ok (.aload_n 0, 1) := by decide +kernel
theorem dL_from_20 : decode cL_from 20 = .ok (.arraylength, 1) := by decide +kernel
theorem dL_from_21 : decode cL_from 21 = .ok (.irem, 1) := by decide +kernel
theorem dL_from_22 : decode cL_from 22 = .ok (.iaload, 1) := by decide +kernel
theorem dL_from_23 : decode cL_from 23 = .ok (.ldc 7, 2) := by decide +kernel
theorem dL_from_25 : decode cL_from 25 = .ok (.iload_n 1, 1) := by decide +kernel
theorem dL_from_26 : decode cL_from 26 = .ok (.imul, 1) := by decide +kernel
theorem dL_from_27 : decode cL_from 27 = .ok (.ixor, 1) := by decide +kernel
theorem dL_from_28 : decode cL_from 28 = .ok (.istore_n 3, 1) := by decide +kernel
theorem dL_from_29 : decode cL_from 29 = .ok (.iload_n 3, 1) := by decide +kernel
theorem dL_from_30 : decode cL_from 30 = .ok (.ldc 8, 2) := by decide +kernel
theorem dL_from_32 : decode cL_from 32 = .ok (.iand, 1) := by decide +kernel
theorem dL_from_33 : decode cL_from 33 = .ok (.iload_n 2, 1) := by decide +kernel
theorem dL_from_34 : decode cL_from 34 = .ok (.irem, 1) := by decide +kernel
theorem dL_from_35 : decode cL_from 35 = .ok (.ireturn, 1) := by decide +kernel
theorem dL_root_0 : decode cL_root 0 = .ok (.lconst 0, 1) := by decide +kernel
theorem dL_root_1 : decode cL_root 1 = .ok (.lstore_n 2, 1) := by decide +kernel
theorem dL_root_2 : decode cL_root 2 = .ok (.ldc2_w 9, 3) := by decide +kernel
theorem dL_root_5 : decode cL_root 5 = .ok (.lstore 4, 2) := by decide +kernel
theorem dL_root_7 : decode cL_root 7 = .ok (.lload 4, 2) := by decide +kernel
theorem dL_root_9 : decode cL_root 9 = .ok (.lconst 0, 1) := by decide +kernel
theorem dL_root_10 : decode cL_root 10 = .ok (.lcmp, 1) := by decide +kernel
theorem dL_root_11 : decode cL_root 11 = .ok (.ifCond .le 37, 3) := by decide +kernel
theorem dL_root_14 : decode cL_root 14 = .ok (.lload_n 2, 1) := by decide +kernel
theorem dL_root_15 : decode cL_root 15 = .ok (.lload_n 2, 1) := by decide +kernel
theorem dL_root_16 : decode cL_root 16 = .ok (.lload 4, 2) := by decide +kernel
theorem dL_root_18 : decode cL_root 18 = .ok (.ladd, 1) := by decide +kernel
theorem dL_root_19 : decode cL_root 19 = .ok (.lload_n 2, 1) := by decide +kernel
theorem dL_root_20 : decode cL_root 20 = .ok (.lload 4, 2) := by decide +kernel
theorem dL_root_22 : decode cL_root 22 = .ok (.ladd, 1) := by decide +kernel
theorem dL_root_23 : decode cL_root 23 = .ok (.lmul, 1) := by decide +kernel
theorem dL_root_24 : decode cL_root 24 = .ok (.lload_n 0, 1) := by decide +kernel
theorem dL_root_25 : decode cL_root 25 = .ok (.lcmp, 1) := by decide +kernel
theorem dL_root_26 : decode cL_root 26 = .ok (.ifCond .gt 8, 3) := by decide +kernel
theorem dL_root_29 : decode cL_root 29 = .ok (.lload 4, 2) := by decide +kernel
theorem dL_root_31 : decode cL_root 31 = .ok (.goto 4, 3) := by decide +kernel
theorem dL_root_34 : decode cL_root 34 = .ok (.lconst 0, 1) := by decide +kernel
theorem dL_root_35 : decode cL_root 35 = .ok (.ladd, 1) := by decide +kernel
theorem dL_root_36 : decode cL_root 36 = .ok (.lstore_n 2, 1) := by decide +kernel
theorem dL_root_37 : decode cL_root 37 = .ok (.lload 4, 2) := by decide +kernel
theorem dL_root_39 : decode cL_root 39 = .ok (.ldc2_w 11, 3) := by decide +kernel
theorem dL_root_42 : decode cL_root 42 = .ok (.ldiv, 1) := by decide +kernel
theorem dL_root_43 : decode cL_root 43 = .ok (.lstore 4, 2) := by decide +kernel
theorem dL_root_45 : decode cL_root 45 = .ok (.goto (-38), 3) := by decide +kernel
theorem dL_root_48 : decode cL_root 48 = .ok (.lload_n 2, 1) := by decide +kernel
theorem dL_root_49 : decode cL_root 49 = .ok (.l2i, 1) := by decide +kernel
theorem dL_root_50 : decode cL_root 50 = .ok (.ireturn, 1) := by decide +kernel
theorem dL_away_0 : decode cL_away 0 = .ok (.aload_n 0, 1) := by decide +kernel
theorem dL_away_1 : decode cL_away 1 = .ok (.iconst 2, 1) := by decide +kernel
theorem dL_away_2 : decode cL_away 2 = .ok (.aload_n 1, 1) := by decide +kernel
theorem dL_away_3 : decode cL_away 3 = .ok (.bipush 6, 2) := by decide +kernel
theorem dL_away_5 : decode cL_away 5 = .ok (.iload_n 2, 1) := by decide +kernel
theorem dL_away_6 : decode cL_away 6 = .ok (.imul, 1) := by decide +kernel
theorem dL_away_7 : decode cL_away 7 = .ok (.iconst 1, 1) := by decide +kernel
theorem dL_away_8 : decode cL_away 8 = .ok (.iadd, 1) := by decide +kernel
theorem dL_away_9 : decode cL_away 9 = .ok (.iaload, 1) := by decide +kernel
theorem dL_away_10 : decode cL_away 10 = .ok (.imul, 1) := by decide +kernel
theorem dL_away_11 : decode cL_away 11 = .ok (.iaload, 1) := by decide +kernel
theorem dL_away_12 : decode cL_away 12 = .ok (.aload_n 1, 1) := by decide +kernel
theorem dL_away_13 : decode cL_away 13 = .ok (.bipush 6, 2) := by decide +kernel
theorem dL_away_15 : decode cL_away 15 = .ok (.iload_n 2, 1) := by decide +kernel
theorem dL_away_16 : decode cL_away 16 = .ok (.imul, 1) := by decide +kernel
theorem dL_away_17 : decode cL_away 17 = .ok (.iaload, 1) := by decide +kernel
theorem dL_away_18 : decode cL_away 18 = .ok (.isub, 1) := by decide +kernel
theorem dL_away_19 : decode cL_away 19 = .ok (.iload_n 3, 1) := by decide +kernel
theorem dL_away_20 : decode cL_away 20 = .ok (.isub, 1) := by decide +kernel
theorem dL_away_21 : decode cL_away 21 = .ok (.ireturn, 1) := by decide +kernel
set_option maxRecDepth 20000 in
theorem ggL_length_L_away : GoodIn wsL_length wsL_away := goodIn_r _ [4] (by decide +kernel) (by decide +kernel)
set_option maxRecDepth 20000 in
theorem gL_length_L_away : GoodIn wsL_length (va_wsS RL 13 yL_away wsL_away) := goodIn_app (goodIn_of _ (by decide +kernel)) ggL_length_L_away
set_option maxRecDepth 20000 in
theorem ggL_length_L_root : GoodIn wsL_length wsL_root := goodIn_r _ [7, 8, 9] (by decide +kernel) (by decide +kernel)
set_option maxRecDepth 20000 in
theorem gL_length_L_root : GoodIn wsL_length (va_wsS RL 19 yL_root wsL_root) := goodIn_app (goodIn_of _ (by decide +kernel)) ggL_length_L_root
theorem dL_length_0 : decode cL_length 0 = .ok (.aload_n 0, 1) := by decide +kernel
theorem dL_length_1 : decode cL_length 1 = .ok (.aload_n 1, 1) := by decide +kernel
theorem dL_length_2 : decode cL_length 2 = .ok (.iload_n 2, 1) := by decide +kernel
theorem dL_length_3 : decode cL_length 3 = .ok (.iload 4, 2) := by decide +kernel
theorem dL_length_5 : decode cL_length 5 = .ok (.invokestatic 13, 3) := by decide +kernel
theorem dL_length_8 : decode cL_length 8 = .ok (.i2l, 1) := by decide +kernel
theorem dL_length_9 : decode cL_length 9 = .ok (.lstore 5, 2) := by decide +kernel
theorem dL_length_11 : decode cL_length 11 = .ok (.lload 5, 2) := by decide +kernel
theorem dL_length_13 : decode cL_length 13 = .ok (.lload 5, 2) := by decide +kernel
theorem dL_length_15 : decode cL_length 15 = .ok (.lmul, 1) := by decide +kernel
theorem dL_length_16 : decode cL_length 16 = .ok (.iload_n 3, 1) := by decide +kernel
theorem dL_length_17 : decode cL_length 17 = .ok (.i2l, 1) := by decide +kernel
theorem dL_length_18 : decode cL_length 18 = .ok (.iload_n 3, 1) := by decide +kernel
theorem dL_length_19 : decode cL_length 19 = .ok (.i2l, 1) := by decide +kernel
theorem dL_length_20 : decode cL_length 20 = .ok (.lmul, 1) := by decide +kernel
theorem dL_length_21 : decode cL_length 21 = .ok (.ladd, 1) := by decide +kernel
theorem dL_length_22 : decode cL_length 22 = .ok (.invokestatic 19, 3) := by decide +kernel
theorem dL_length_25 : decode cL_length 25 = .ok (.ireturn, 1) := by decide +kernel
set_option maxRecDepth 20000 in
theorem ggL_tension_L_length : GoodIn wsL_tension wsL_length := goodIn_r _ [4, 5, 6, 3, 7, 8, 9, 10, 11, 12] (by decide +kernel) (by decide +kernel)
set_option maxRecDepth 20000 in
theorem gL_tension_L_length : GoodIn wsL_tension (va_wsS RL 23 yL_length wsL_length) := goodIn_app (goodIn_of _ (by decide +kernel)) ggL_tension_L_length
theorem dL_tension_0 : decode cL_tension 0 = .ok (.aload_n 0, 1) := by decide +kernel
theorem dL_tension_1 : decode cL_tension 1 = .ok (.aload_n 1, 1) := by decide +kernel
theorem dL_tension_2 : decode cL_tension 2 = .ok (.iload_n 2, 1) := by decide +kernel
theorem dL_tension_3 : decode cL_tension 3 = .ok (.iload_n 3, 1) := by decide +kernel
theorem dL_tension_4 : decode cL_tension 4 = .ok (.iload 4, 2) := by decide +kernel
theorem dL_tension_6 : decode cL_tension 6 = .ok (.invokestatic 23, 3) := by decide +kernel
theorem dL_tension_9 : decode cL_tension 9 = .ok (.aload_n 1, 1) := by decide +kernel
theorem dL_tension_10 : decode cL_tension 10 = .ok (.bipush 6, 2) := by decide +kernel
theorem dL_tension_12 : decode cL_tension 12 = .ok (.iload_n 2, 1) := by decide +kernel
theorem dL_tension_13 : decode cL_tension 13 = .ok (.imul, 1) := by decide +kernel
theorem dL_tension_14 : decode cL_tension 14 = .ok (.iconst 4, 1) := by decide +kernel
theorem dL_tension_15 : decode cL_tension 15 = .ok (.iadd, 1) := by decide +kernel
theorem dL_tension_16 : decode cL_tension 16 = .ok (.iaload, 1) := by decide +kernel
theorem dL_tension_17 : decode cL_tension 17 = .ok (.isub, 1) := by decide +kernel
theorem dL_tension_18 : decode cL_tension 18 = .ok (.istore 5, 2) := by decide +kernel
theorem dL_tension_20 : decode cL_tension 20 = .ok (.aload_n 1, 1) := by decide +kernel
theorem dL_tension_21 : decode cL_tension 21 = .ok (.bipush 6, 2) := by decide +kernel
theorem dL_tension_23 : decode cL_tension 23 = .ok (.iload_n 2, 1) := by decide +kernel
theorem dL_tension_24 : decode cL_tension 24 = .ok (.imul, 1) := by decide +kernel
theorem dL_tension_25 : decode cL_tension 25 = .ok (.iconst 5, 1) := by decide +kernel
theorem dL_tension_26 : decode cL_tension 26 = .ok (.iadd, 1) := by decide +kernel
theorem dL_tension_27 : decode cL_tension 27 = .ok (.iaload, 1) := by decide +kernel
theorem dL_tension_28 : decode cL_tension 28 = .ok (.iconst 1, 1) := by decide +kernel
theorem dL_tension_29 : decode cL_tension 29 = .ok (.if_icmp .eq 8, 3) := by decide +kernel
theorem dL_tension_32 : decode cL_tension 32 = .ok (.iload 5, 2) := by decide +kernel
theorem dL_tension_34 : decode cL_tension 34 = .ok (.ifCond .gt 7, 3) := by decide +kernel
theorem dL_tension_37 : decode cL_tension 37 = .ok (.iconst 0, 1) := by decide +kernel
theorem dL_tension_38 : decode cL_tension 38 = .ok (.goto 14, 3) := by decide +kernel
theorem dL_tension_41 : decode cL_tension 41 = .ok (.aload_n 1, 1) := by decide +kernel
theorem dL_tension_42 : decode cL_tension 42 = .ok (.bipush 6, 2) := by decide +kernel
theorem dL_tension_44 : decode cL_tension 44 = .ok (.iload_n 2, 1) := by decide +kernel
theorem dL_tension_45 : decode cL_tension 45 = .ok (.imul, 1) := by decide +kernel
theorem dL_tension_46 : decode cL_tension 46 = .ok (.iconst 2, 1) := by decide +kernel
theorem dL_tension_47 : decode cL_tension 47 = .ok (.iadd, 1) := by decide +kernel
theorem dL_tension_48 : decode cL_tension 48 = .ok (.iaload, 1) := by decide +kernel
theorem dL_tension_49 : decode cL_tension 49 = .ok (.iload 5, 2) := by decide +kernel
theorem dL_tension_51 : decode cL_tension 51 = .ok (.imul, 1) := by decide +kernel
theorem dL_tension_52 : decode cL_tension 52 = .ok (.ireturn, 1) := by decide +kernel
set_option maxRecDepth 20000 in
theorem ggL_force_L_length : GoodIn wsL_force wsL_length := goodIn_r _ [4, 5, 6, 3, 7, 8, 9, 10, 11, 12] (by decide +kernel) (by decide +kernel)
set_option maxRecDepth 20000 in
theorem gL_force_L_length : GoodIn wsL_force (va_wsS RL 23 yL_length wsL_length) := goodIn_app (goodIn_of _ (by decide +kernel)) ggL_force_L_length
set_option maxRecDepth 20000 in
theorem ggL_force_L_tension : GoodIn wsL_force wsL_tension := goodIn_r _ [15, 1, 2, 3, 4, 5, 6, 7, 8, 9, 10, 11, 12] (by decide +kernel) (by decide +kernel)
set_option maxRecDepth 20000 in
theorem gL_force_L_tension : GoodIn wsL_force (va_wsS RL 27 yL_tension wsL_tension) := goodIn_app (goodIn_of _ (by decide +kernel)) ggL_force_L_tension
set_option maxRecDepth 20000 in
theorem ggL_force_L_away : GoodIn wsL_force wsL_away := goodIn_r _ [7] (by decide +kernel) (by decide +kernel)
set_option maxRecDepth 20000 in
theorem gL_force_L_away : GoodIn wsL_force (va_wsS RL 13 yL_away wsL_away) := goodIn_app (goodIn_of _ (by decide +kernel)) ggL_force_L_away
theorem dL_force_0 : decode cL_force 0 = .ok (.aload_n 2, 1) := by decide +kernel
theorem dL_force_1 : decode cL_force 1 = .ok (.iconst 2, 1) := by decide +kernel
theorem dL_force_2 : decode cL_force 2 = .ok (.iaload, 1) := by decide +kernel
theorem dL_force_3 : decode cL_force 3 = .ok (.i2l, 1) := by decide +kernel
theorem dL_force_4 : decode cL_force 4 = .ok (.iload 4, 2) := by decide +kernel
theorem dL_force_6 : decode cL_force 6 = .ok (.i2l, 1) := by decide +kernel
theorem dL_force_7 : decode cL_force 7 = .ok (.ladd, 1) := by decide +kernel
theorem dL_force_8 : decode cL_force 8 = .ok (.lstore 6, 2) := by decide +kernel
theorem dL_force_10 : decode cL_force 10 = .ok (.iconst 0, 1) := by decide +kernel
theorem dL_force_11 : decode cL_force 11 = .ok (.istore 8, 2) := by decide +kernel
theorem dL_force_13 : decode cL_force 13 = .ok (.iload 8, 2) := by decide +kernel
theorem dL_force_15 : decode cL_force 15 = .ok (.aload_n 2, 1) := by decide +kernel
theorem dL_force_16 : decode cL_force 16 = .ok (.iconst 1, 1) := by decide +kernel
theorem dL_force_17 : decode cL_force 17 = .ok (.iaload, 1) := by decide +kernel
theorem dL_force_18 : decode cL_force 18 = .ok (.if_icmp .ge 97, 3) := by decide +kernel
theorem dL_force_21 : decode cL_force 21 = .ok (.aload_n 0, 1) := by decide +kernel
theorem dL_force_22 : decode cL_force 22 = .ok (.aload_n 1, 1) := by decide +kernel
theorem dL_force_23 : decode cL_force 23 = .ok (.iload 8, 2) := by decide +kernel
theorem dL_force_25 : decode cL_force 25 = .ok (.iload_n 3, 1) := by decide +kernel
theorem dL_force_26 : decode cL_force 26 = .ok (.iload 5, 2) := by decide +kernel
theorem dL_force_28 : decode cL_force 28 = .ok (.invokestatic 23, 3) := by decide +kernel
theorem dL_force_31 : decode cL_force 31 = .ok (.i2l, 1) := by decide +kernel
theorem dL_force_32 : decode cL_force 32 = .ok (.lstore 9, 2) := by decide +kernel
theorem dL_force_34 : decode cL_force 34 = .ok (.aload_n 0, 1) := by decide +kernel
theorem dL_force_35 : decode cL_force 35 = .ok (.aload_n 1, 1) := by decide +kernel
theorem dL_force_36 : decode cL_force 36 = .ok (.iload 8, 2) := by decide +kernel
theorem dL_force_38 : decode cL_force 38 = .ok (.iload_n 3, 1) := by decide +kernel
theorem dL_force_39 : decode cL_force 39 = .ok (.iload 5, 2) := by decide +kernel
theorem dL_force_41 : decode cL_force 41 = .ok (.invokestatic 27, 3) := by decide +kernel
theorem dL_force_44 : decode cL_force 44 = .ok (.i2l, 1) := by decide +kernel
theorem dL_force_45 : decode cL_force 45 = .ok (.aload_n 0, 1) := by decide +kernel
theorem dL_force_46 : decode cL_force 46 = .ok (.aload_n 1, 1) := by decide +kernel
theorem dL_force_47 : decode cL_force 47 = .ok (.iload 8, 2) := by decide +kernel
theorem dL_force_49 : decode cL_force 49 = .ok (.iload 5, 2) := by decide +kernel
theorem dL_force_51 : decode cL_force 51 = .ok (.invokestatic 13, 3) := by decide +kernel
theorem dL_force_54 : decode cL_force 54 = .ok (.i2l, 1) := by decide +kernel
theorem dL_force_55 : decode cL_force 55 = .ok (.lmul, 1) := by decide +kernel
theorem dL_force_56 : decode cL_force 56 = .ok (.lstore 11, 2) := by decide +kernel
theorem dL_force_58 : decode cL_force 58 = .ok (.lload 9, 2) := by decide +kernel
theorem dL_force_60 : decode cL_force 60 = .ok (.lconst 0, 1) := by decide +kernel
theorem dL_force_61 : decode cL_force 61 = .ok (.lcmp, 1) := by decide +kernel
theorem dL_force_62 : decode cL_force 62 = .ok (.ifCond .ne 7, 3) := by decide +kernel
theorem dL_force_65 : decode cL_force 65 = .ok (.lconst 0, 1) := by decide +kernel
theorem dL_force_66 : decode cL_force 66 = .ok (.goto 21, 3) := by decide +kernel
theorem dL_force_69 : decode cL_force 69 = .ok (.lload 11, 2) := by decide +kernel
theorem dL_force_71 : decode cL_force 71 = .ok (.lconst 0, 1) := by decide +kernel
theorem dL_force_72 : decode cL_force 72 = .ok (.lcmp, 1) := by decide +kernel
theorem dL_force_73 : decode cL_force 73 = .ok (.ifCond .ge 9, 3) := by decide +kernel
theorem dL_force_76 : decode cL_force 76 = .ok (.lload 11, 2) := by decide +kernel
theorem dL_force_78 : decode cL_force 78 = .ok (.lneg, 1) := by decide +kernel
theorem dL_force_79 : decode cL_force 79 = .ok (.goto 5, 3) := by decide +kernel
theorem dL_force_82 : decode cL_force 82 = .ok (.lload 11, 2) := by decide +kernel
theorem dL_force_84 : decode cL_force 84 = .ok (.lload 9, 2) := by decide +kernel
theorem dL_force_86 : decode cL_force 86 = .ok (.ldiv, 1) := by decide +kernel
theorem dL_force_87 : decode cL_force 87 = .ok (.lstore 13, 2) := by decide +kernel
theorem dL_force_89 : decode cL_force 89 = .ok (.lload 6, 2) := by decide +kernel
theorem dL_force_91 : decode cL_force 91 = .ok (.lload 11, 2) := by decide +kernel
theorem dL_force_93 : decode cL_force 93 = .ok (.lconst 0, 1) := by decide +kernel
theorem dL_force_94 : decode cL_force 94 = .ok (.lcmp, 1) := by decide +kernel
theorem dL_force_95 : decode cL_force 95 = .ok (.ifCond .ge 9, 3) := by decide +kernel
theorem dL_force_98 : decode cL_force 98 = .ok (.lload 13, 2) := by decide +kernel
theorem dL_force_100 : decode cL_force 100 = .ok (.lneg, 1) := by decide +kernel
theorem dL_force_101 : decode cL_force 101 = .ok (.goto 5, 3) := by decide +kernel
theorem dL_force_104 : decode cL_force 104 = .ok (.lload 13, 2) := by decide +kernel
theorem dL_force_106 : decode cL_force 106 = .ok (.ladd, 1) := by decide +kernel
theorem dL_force_107 : decode cL_force 107 = .ok (.lstore 6, 2) := by decide +kernel
theorem dL_force_109 : decode cL_force 109 = .ok (.iinc 8 1, 3) := by decide +kernel
theorem dL_force_112 : decode cL_force 112 = .ok (.goto (-99), 3) := by decide +kernel
theorem dL_force_115 : decode cL_force 115 = .ok (.lload 6, 2) := by decide +kernel
theorem dL_force_117 : decode cL_force 117 = .ok (.l2i, 1) := by decide +kernel
theorem dL_force_118 : decode cL_force 118 = .ok (.ireturn, 1) := by decide +kernel
set_option maxRecDepth 20000 in
theorem ggL_shift_L_force : GoodIn wsL_shift wsL_force := goodIn_r _ [4, 5, 6, 3, 7, 8, 9, 10, 11, 12, 13, 14, 15, 16, 17, 18] (by decide +kernel) (by decide +kernel)
set_option maxRecDepth 20000 in
theorem gL_shift_L_force : GoodIn wsL_shift (va_wsS RL 30 yL_force wsL_force) := goodIn_app (goodIn_of _ (by decide +kernel)) ggL_shift_L_force
theorem dL_shift_0 : decode cL_shift 0 = .ok (.sipush (-200), 3) := by decide +kernel
theorem dL_shift_3 : decode cL_shift 3 = .ok (.istore 5, 2) := by decide +kernel
theorem dL_shift_5 : decode cL_shift 5 = .ok (.sipush 200, 3) := by decide +kernel
theorem dL_shift_8 : decode cL_shift 8 = .ok (.istore 6, 2) := by decide +kernel
theorem dL_shift_10 : decode cL_shift 10 = .ok (.iload 5, 2) := by decide +kernel
theorem dL_shift_12 : decode cL_shift 12 = .ok (.iload 6, 2) := by decide +kernel
theorem dL_shift_14 : decode cL_shift 14 = .ok (.if_icmp .ge 66, 3) := by decide +kernel
theorem dL_shift_17 : decode cL_shift 17 = .ok (.iload 5, 2) := by decide +kernel
theorem dL_shift_19 : decode cL_shift 19 = .ok (.iload 6, 2) := by decide +kernel
theorem dL_shift_21 : decode cL_shift 21 = .ok (.iadd, 1) := by decide +kernel
theorem dL_shift_22 : decode cL_shift 22 = .ok (.iconst 1, 1) := by decide +kernel
theorem dL_shift_23 : decode cL_shift 23 = .ok (.ishr, 1) := by decide +kernel
theorem dL_shift_24 : decode cL_shift 24 = .ok (.istore 7, 2) := by decide +kernel
theorem dL_shift_26 : decode cL_shift 26 = .ok (.aload_n 0, 1) := by decide +kernel
theorem dL_shift_27 : decode cL_shift 27 = .ok (.aload_n 1, 1) := by decide +kernel
theorem dL_shift_28 : decode cL_shift 28 = .ok (.aload_n 2, 1) := by decide +kernel
theorem dL_shift_29 : decode cL_shift 29 = .ok (.iload_n 3, 1) := by decide +kernel
theorem dL_shift_30 : decode cL_shift 30 = .ok (.iload 4, 2) := by decide +kernel
theorem dL_shift_32 : decode cL_shift 32 = .ok (.iload 7, 2) := by decide +kernel
theorem dL_shift_34 : decode cL_shift 34 = .ok (.invokestatic 30, 3) := by decide +kernel
theorem dL_shift_37 : decode cL_shift 37 = .ok (.ifCond .le 7, 3) := by decide +kernel
theorem dL_shift_40 : decode cL_shift 40 = .ok (.iconst 1, 1) := by decide +kernel
theorem dL_shift_41 : decode cL_shift 41 = .ok (.goto 4, 3) := by decide +kernel
theorem dL_shift_44 : decode cL_shift 44 = .ok (.iconst 0, 1) := by decide +kernel
theorem dL_shift_45 : decode cL_shift 45 = .ok (.istore 8, 2) := by decide +kernel
theorem dL_shift_47 : decode cL_shift 47 = .ok (.iload 8, 2) := by decide +kernel
