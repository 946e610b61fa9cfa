set_option maxRecDepth 20000 in
theorem gX1_length_X1_isHour : GoodIn wsX1_length (va_wsS RX1 74 yX1_isHour wsX1_isHour) := goodIn_app (goodIn_of _ (by decide +kernel)) ggX1_length_X1_isHour
set_option maxRecDepth 20000 in
theorem ggX1_length_X1_goes : GoodIn wsX1_length wsX1_goes := goodIn_r _ [16, 17, 51, 52, 53, 54, 55, 56, 57, 58, 59, 60, 61, 62, 63, 64, 65, 66] (by decide +kernel) (by decide +kernel)
set_option maxRecDepth 20000 in
theorem gX1_length_X1_goes : GoodIn wsX1_length (wsV RX1 62 RX1 yX1_goes wsX1_goes) := goodIn_app (goodIn_of _ (by decide +kernel)) ggX1_length_X1_goes
set_option maxRecDepth 20000 in
theorem ggX1_length_X1_shiftAt : GoodIn wsX1_length wsX1_shiftAt := goodIn_r _ [21, 22, 23, 24, 4, 25, 26, 27, 6, 28, 29, 30, 31, 32, 33, 34, 35, 36, 37, 38, 39, 40, 41, 42, 43, 44, 45, 46, 47, 48, 49, 50, 51, 52, 53, 54, 55, 56, 57, 58, 59, 60, 61, 62, 63, 64, 65, 66] (by decide +kernel) (by decide +kernel)
set_option maxRecDepth 20000 in
theorem gX1_length_X1_shiftAt : GoodIn wsX1_length (wsV RX1 94 RX1 yX1_shiftAt wsX1_shiftAt) := goodIn_app (goodIn_of _ (by decide +kernel)) ggX1_length_X1_shiftAt
set_option maxRecDepth 20000 in
theorem ggX1_length_X1_lengthAt : GoodIn wsX1_length wsX1_lengthAt := goodIn_r _ [31, 32, 33, 34, 35, 36, 4, 37, 38, 39, 40, 41, 42, 43, 51, 52, 53, 54, 55, 56, 57, 58, 59, 60, 61, 62, 63, 64, 65, 66] (by decide +kernel) (by decide +kernel)
set_option maxRecDepth 20000 in
theorem gX1_length_X1_lengthAt : GoodIn wsX1_length (wsV RX1 84 RX1 yX1_lengthAt wsX1_lengthAt) := goodIn_app (goodIn_of _ (by decide +kernel)) ggX1_length_X1_lengthAt
theorem dX1_length_0 : decode cX1_length 0 = .ok (.aload_n 0, 1) := by decide +kernel
theorem dX1_length_1 : decode cX1_length 1 = .ok (.aload_n 0, 1) := by decide +kernel
theorem dX1_length_2 : decode cX1_length 2 = .ok (.iload_n 1, 1) := by decide +kernel
theorem dX1_length_3 : decode cX1_length 3 = .ok (.invokevirtual 70, 3) := by decide +kernel
theorem dX1_length_6 : decode cX1_length 6 = .ok (.ifCond .eq 14, 3) := by decide +kernel
theorem dX1_length_9 : decode cX1_length 9 = .ok (.iload_n 2, 1) := by decide +kernel
theorem dX1_length_10 : decode cX1_length 10 = .ok (.invokestatic 74, 3) := by decide +kernel
theorem dX1_length_13 : decode cX1_length 13 = .ok (.ifCond .eq 7, 3) := by decide +kernel
theorem dX1_length_16 : decode cX1_length 16 = .ok (.iconst 1, 1) := by decide +kernel
theorem dX1_length_17 : decode cX1_length 17 = .ok (.goto 4, 3) := by decide +kernel
theorem dX1_length_20 : decode cX1_length 20 = .ok (.iconst 0, 1) := by decide +kernel
theorem dX1_length_21 : decode cX1_length 21 = .ok (.iconst 1, 1) := by decide +kernel
theorem dX1_length_22 : decode cX1_length 22 = .ok (.iconst 1, 1) := by decide +kernel
theorem dX1_length_23 : decode cX1_length 23 = .ok (.invokevirtual 62, 3) := by decide +kernel
theorem dX1_length_26 : decode cX1_length 26 = .ok (.ifCond .eq 17, 3) := by decide +kernel
theorem dX1_length_29 : decode cX1_length 29 = .ok (.aload_n 0, 1) := by decide +kernel
theorem dX1_length_30 : decode cX1_length 30 = .ok (.iload_n 1, 1) := by decide +kernel
theorem dX1_length_31 : decode cX1_length 31 = .ok (.iload_n 2, 1) := by decide +kernel
theorem dX1_length_32 : decode cX1_length 32 = .ok (.aload_n 0, 1) := by decide +kernel
theorem dX1_length_33 : decode cX1_length 33 = .ok (.iload_n 2, 1) := by decide +kernel
theorem dX1_length_34 : decode cX1_length 34 = .ok (.invokevirtual 94, 3) := by decide +kernel
theorem dX1_length_37 : decode cX1_length 37 = .ok (.invokevirtual 84, 3) := by decide +kernel
theorem dX1_length_40 : decode cX1_length 40 = .ok (.goto 4, 3) := by decide +kernel
theorem dX1_length_43 : decode cX1_length 43 = .ok (.iconst 0, 1) := by decide +kernel
theorem dX1_length_44 : decode cX1_length 44 = .ok (.ireturn, 1) := by decide +kernel
set_option maxRecDepth 20000 in
theorem ggX1_tension_X1_isLine : GoodIn wsX1_tension wsX1_isLine := goodIn_r _ [5, 6, 7, 8, 4, 9, 51, 52, 53, 54, 55, 56, 57, 58, 59, 60, 61, 62, 63, 64, 65, 66] (by decide +kernel) (by decide +kernel)
set_option maxRecDepth 20000 in
theorem gX1_tension_X1_isLine : GoodIn wsX1_tension (wsV RX1 70 RX1 yX1_isLine wsX1_isLine) := goodIn_app (goodIn_of _ (by decide +kernel)) ggX1_tension_X1_isLine
set_option maxRecDepth 20000 in
theorem ggX1_tension_X1_isHour : GoodIn wsX1_tension wsX1_isHour := goodIn_r _ [12, 7, 8, 4, 9] (by decide +kernel) (by decide +kernel)
set_option maxRecDepth 20000 in
theorem gX1_tension_X1_isHour : GoodIn wsX1_tension (va_wsS RX1 74 yX1_isHour wsX1_isHour) := goodIn_app (goodIn_of _ (by decide +kernel)) ggX1_tension_X1_isHour
set_option maxRecDepth 20000 in
theorem ggX1_tension_X1_goes : GoodIn wsX1_tension wsX1_goes := goodIn_r _ [16, 17, 51, 52, 53, 54, 55, 56, 57, 58, 59, 60, 61, 62, 63, 64, 65, 66] (by decide +kernel) (by decide +kernel)
set_option maxRecDepth 20000 in
theorem gX1_tension_X1_goes : GoodIn wsX1_tension (wsV RX1 62 RX1 yX1_goes wsX1_goes) := goodIn_app (goodIn_of _ (by decide +kernel)) ggX1_tension_X1_goes
set_option maxRecDepth 20000 in
theorem ggX1_tension_X1_shiftAt : GoodIn wsX1_tension wsX1_shiftAt := goodIn_r _ [21, 22, 23, 24, 4, 25, 26, 27, 6, 28, 29, 30, 31, 32, 33, 34, 35, 36, 37, 38, 39, 40, 41, 42, 43, 44, 45, 46, 47, 48, 49, 50, 51, 52, 53, 54, 55, 56, 57, 58, 59, 60, 61, 62, 63, 64, 65, 66] (by decide +kernel) (by decide +kernel)
set_option maxRecDepth 20000 in
theorem gX1_tension_X1_shiftAt : GoodIn wsX1_tension (wsV RX1 94 RX1 yX1_shiftAt wsX1_shiftAt) := goodIn_app (goodIn_of _ (by decide +kernel)) ggX1_tension_X1_shiftAt
set_option maxRecDepth 20000 in
theorem ggX1_tension_X1_tensionAt : GoodIn wsX1_tension wsX1_tensionAt := goodIn_r _ [47, 48, 49, 50, 28, 29, 30, 4, 31, 32, 33, 34, 35, 36, 37, 38, 39, 40, 41, 42, 43, 51, 52, 53, 54, 55, 56, 57, 58, 59, 60, 61, 62, 63, 64, 65, 66] (by decide +kernel) (by decide +kernel)
set_option maxRecDepth 20000 in
theorem gX1_tension_X1_tensionAt : GoodIn wsX1_tension (wsV RX1 88 RX1 yX1_tensionAt wsX1_tensionAt) := goodIn_app (goodIn_of _ (by decide +kernel)) ggX1_tension_X1_tensionAt
theorem dX1_tension_0 : decode cX1_tension 0 = .ok (.aload_n 0, 1) := by decide +kernel
theorem dX1_tension_1 : decode cX1_tension 1 = .ok (.aload_n 0, 1) := by decide +kernel
theorem dX1_tension_2 : decode cX1_tension 2 = .ok (.iload_n 1, 1) := by decide +kernel
theorem dX1_tension_3 : decode cX1_tension 3 = .ok (.invokevirtual 70, 3) := by decide +kernel
theorem dX1_tension_6 : decode cX1_tension 6 = .ok (.ifCond .eq 14, 3) := by decide +kernel
theorem dX1_tension_9 : decode cX1_tension 9 = .ok (.iload_n 2, 1) := by decide +kernel
theorem dX1_tension_10 : decode cX1_tension 10 = .ok (.invokestatic 74, 3) := by decide +kernel
theorem dX1_tension_13 : decode cX1_tension 13 = .ok (.ifCond .eq 7, 3) := by decide +kernel
theorem dX1_tension_16 : decode cX1_tension 16 = .ok (.iconst 1, 1) := by decide +kernel
theorem dX1_tension_17 : decode cX1_tension 17 = .ok (.goto 4, 3) := by decide +kernel
theorem dX1_tension_20 : decode cX1_tension 20 = .ok (.iconst 0, 1) := by decide +kernel
theorem dX1_tension_21 : decode cX1_tension 21 = .ok (.iconst 1, 1) := by decide +kernel
theorem dX1_tension_22 : decode cX1_tension 22 = .ok (.iconst 1, 1) := by decide +kernel
theorem dX1_tension_23 : decode cX1_tension 23 = .ok (.invokevirtual 62, 3) := by decide +kernel
theorem dX1_tension_26 : decode cX1_tension 26 = .ok (.ifCond .eq 17, 3) := by decide +kernel
theorem dX1_tension_29 : decode cX1_tension 29 = .ok (.aload_n 0, 1) := by decide +kernel
theorem dX1_tension_30 : decode cX1_tension 30 = .ok (.iload_n 1, 1) := by decide +kernel
theorem dX1_tension_31 : decode cX1_tension 31 = .ok (.iload_n 2, 1) := by decide +kernel
theorem dX1_tension_32 : decode cX1_tension 32 = .ok (.aload_n 0, 1) := by decide +kernel
theorem dX1_tension_33 : decode cX1_tension 33 = .ok (.iload_n 2, 1) := by decide +kernel
theorem dX1_tension_34 : decode cX1_tension 34 = .ok (.invokevirtual 94, 3) := by decide +kernel
theorem dX1_tension_37 : decode cX1_tension 37 = .ok (.invokevirtual 88, 3) := by decide +kernel
theorem dX1_tension_40 : decode cX1_tension 40 = .ok (.goto 4, 3) := by decide +kernel
theorem dX1_tension_43 : decode cX1_tension 43 = .ok (.iconst 0, 1) := by decide +kernel
theorem dX1_tension_44 : decode cX1_tension 44 = .ok (.ireturn, 1) := by decide +kernel
set_option maxRecDepth 20000 in
theorem ggX1_sumOn_X1_tensionAt : GoodIn wsX1_sumOn wsX1_tensionAt := goodIn_r _ [7, 8, 9, 10, 11, 12, 13, 6, 14, 15, 16, 17, 18, 19, 20, 21, 2, 22, 23, 24, 25, 26, 27, 28, 29, 30, 31, 32, 33, 34, 35, 36, 37, 38, 39, 40, 41] (by decide +kernel) (by decide +kernel)
set_option maxRecDepth 20000 in
theorem gX1_sumOn_X1_tensionAt : GoodIn wsX1_sumOn (wsV RX1 88 RX1 yX1_tensionAt wsX1_tensionAt) := goodIn_app (goodIn_of _ (by decide +kernel)) ggX1_sumOn_X1_tensionAt
theorem dX1_sumOn_0 : decode cX1_sumOn 0 = .ok (.iconst 0, 1) := by decide +kernel
theorem dX1_sumOn_1 : decode cX1_sumOn 1 = .ok (.istore 4, 2) := by decide +kernel
theorem dX1_sumOn_3 : decode cX1_sumOn 3 = .ok (.iconst 0, 1) := by decide +kernel
theorem dX1_sumOn_4 : decode cX1_sumOn 4 = .ok (.istore 5, 2) := by decide +kernel
theorem dX1_sumOn_6 : decode cX1_sumOn 6 = .ok (.iload 5, 2) := by decide +kernel
theorem dX1_sumOn_8 : decode cX1_sumOn 8 = .ok (.aload_n 0, 1) := by decide +kernel
theorem dX1_sumOn_9 : decode cX1_sumOn 9 = .ok (.getfield 55, 3) := by decide +kernel
theorem dX1_sumOn_12 : decode cX1_sumOn 12 = .ok (.if_icmp .ge 37, 3) := by decide +kernel
theorem dX1_sumOn_15 : decode cX1_sumOn 15 = .ok (.iload 4, 2) := by decide +kernel
theorem dX1_sumOn_17 : decode cX1_sumOn 17 = .ok (.aload_n 0, 1) := by decide +kernel
theorem dX1_sumOn_18 : decode cX1_sumOn 18 = .ok (.getfield 19, 3) := by decide +kernel
theorem dX1_sumOn_21 : decode cX1_sumOn 21 = .ok (.iload 5, 2) := by decide +kernel
theorem dX1_sumOn_23 : decode cX1_sumOn 23 = .ok (.iaload, 1) := by decide +kernel
theorem dX1_sumOn_24 : decode cX1_sumOn 24 = .ok (.iload_n 1, 1) := by decide +kernel
theorem dX1_sumOn_25 : decode cX1_sumOn 25 = .ok (.if_icmp .ne 14, 3) := by decide +kernel
theorem dX1_sumOn_28 : decode cX1_sumOn 28 = .ok (.aload_n 0, 1) := by decide +kernel
theorem dX1_sumOn_29 : decode cX1_sumOn 29 = .ok (.iload 5, 2) := by decide +kernel
theorem dX1_sumOn_31 : decode cX1_sumOn 31 = .ok (.iload_n 2, 1) := by decide +kernel
theorem dX1_sumOn_32 : decode cX1_sumOn 32 = .ok (.iload_n 3, 1) := by decide +kernel
theorem dX1_sumOn_33 : decode cX1_sumOn 33 = .ok (.invokevirtual 88, 3) := by decide +kernel
theorem dX1_sumOn_36 : decode cX1_sumOn 36 = .ok (.goto 4, 3) := by decide +kernel
theorem dX1_sumOn_39 : decode cX1_sumOn 39 = .ok (.iconst 0, 1) := by decide +kernel
theorem dX1_sumOn_40 : decode cX1_sumOn 40 = .ok (.iadd, 1) := by decide +kernel
theorem dX1_sumOn_41 : decode cX1_sumOn 41 = .ok (.istore 4, 2) := by decide +kernel
theorem dX1_sumOn_43 : decode cX1_sumOn 43 = .ok (.iinc 5 1, 3) := by decide +kernel
theorem dX1_sumOn_46 : decode cX1_sumOn 46 = .ok (.goto (-40), 3) := by decide +kernel
theorem dX1_sumOn_49 : decode cX1_sumOn 49 = .ok (.iload 4, 2) := by decide +kernel
theorem dX1_sumOn_51 : decode cX1_sumOn 51 = .ok (.ireturn, 1) := by decide +kernel
set_option maxRecDepth 20000 in
theorem ggX1_onBollard_X1_in : GoodIn wsX1_onBollard wsX1_in := goodIn_r _ [5] (by decide +kernel) (by decide +kernel)
set_option maxRecDepth 20000 in
theorem gX1_onBollard_X1_in : GoodIn wsX1_onBollard (va_wsS RX1 51 yX1_in wsX1_in) := goodIn_app (goodIn_of _ (by decide +kernel)) ggX1_onBollard_X1_in
set_option maxRecDepth 20000 in
theorem ggX1_onBollard_X1_isHour : GoodIn wsX1_onBollard wsX1_isHour := goodIn_r _ [8, 2, 3, 4, 5] (by decide +kernel) (by decide +kernel)
set_option maxRecDepth 20000 in
theorem gX1_onBollard_X1_isHour : GoodIn wsX1_onBollard (va_wsS RX1 74 yX1_isHour wsX1_isHour) := goodIn_app (goodIn_of _ (by decide +kernel)) ggX1_onBollard_X1_isHour
set_option maxRecDepth 20000 in
theorem ggX1_onBollard_X1_goes : GoodIn wsX1_onBollard wsX1_goes := goodIn_r _ [12, 13, 52, 53, 54, 55, 56, 57, 58, 59, 60, 61, 62, 63, 64, 65, 66, 67] (by decide +kernel) (by decide +kernel)
set_option maxRecDepth 20000 in
theorem gX1_onBollard_X1_goes : GoodIn wsX1_onBollard (wsV RX1 62 RX1 yX1_goes wsX1_goes) := goodIn_app (goodIn_of _ (by decide +kernel)) ggX1_onBollard_X1_goes
set_option maxRecDepth 20000 in
theorem ggX1_onBollard_X1_shiftAt : GoodIn wsX1_onBollard wsX1_shiftAt := goodIn_r _ [17, 18, 19, 20, 4, 21, 22, 23, 24, 25, 26, 27, 28, 29, 30, 31, 32, 33, 34, 35, 36, 37, 38, 39, 40, 41, 42, 43, 44, 45, 46, 47, 52, 53, 54, 55, 56, 57, 58, 59, 60, 61, 62, 63, 64, 65, 66, 67] (by decide +kernel) (by decide +kernel)
set_option maxRecDepth 20000 in
theorem gX1_onBollard_X1_shiftAt : GoodIn wsX1_onBollard (wsV RX1 94 RX1 yX1_shiftAt wsX1_shiftAt) := goodIn_app (goodIn_of _ (by decide +kernel)) ggX1_onBollard_X1_shiftAt
set_option maxRecDepth 20000 in
theorem ggX1_onBollard_X1_sumOn : GoodIn wsX1_onBollard wsX1_sumOn := goodIn_r _ [51, 24, 36, 41, 42, 43, 4, 44, 45, 46, 47, 25, 26, 27, 28, 29, 30, 31, 32, 33, 34, 35, 37, 38, 39, 40, 52, 53, 54, 55, 56, 57, 58, 59, 60, 61, 62, 63, 64, 65, 66, 67] (by decide +kernel) (by decide +kernel)
set_option maxRecDepth 20000 in
theorem gX1_onBollard_X1_sumOn : GoodIn wsX1_onBollard (wsV RX1 101 RX1 yX1_sumOn wsX1_sumOn) := goodIn_app (goodIn_of _ (by decide +kernel)) ggX1_onBollard_X1_sumOn
theorem dX1_onBollard_0 : decode cX1_onBollard 0 = .ok (.aload_n 0, 1) := by decide +kernel
theorem dX1_onBollard_1 : decode cX1_onBollard 1 = .ok (.iload_n 1, 1) := by decide +kernel
theorem dX1_onBollard_2 : decode cX1_onBollard 2 = .ok (.iconst 0, 1) := by decide +kernel
theorem dX1_onBollard_3 : decode cX1_onBollard 3 = .ok (.aload_n 0, 1) := by decide +kernel
theorem dX1_onBollard_4 : decode cX1_onBollard 4 = .ok (.getfield 59, 3) := by decide +kernel
theorem dX1_onBollard_7 : decode cX1_onBollard 7 = .ok (.iconst 1, 1) := by decide +kernel
theorem dX1_onBollard_8 : decode cX1_onBollard 8 = .ok (.isub, 1) := by decide +kernel
theorem dX1_onBollard_9 : decode cX1_onBollard 9 = .ok (.invokestatic 51, 3) := by decide +kernel
theorem dX1_onBollard_12 : decode cX1_onBollard 12 = .ok (.ifCond .eq 14, 3) := by decide +kernel
theorem dX1_onBollard_15 : decode cX1_onBollard 15 = .ok (.iload_n 2, 1) := by decide +kernel
theorem dX1_onBollard_16 : decode cX1_onBollard 16 = .ok (.invokestatic 74, 3) := by decide +kernel
theorem dX1_onBollard_19 : decode cX1_onBollard 19 = .ok (.ifCond .eq 7, 3) := by decide +kernel
theorem dX1_onBollard_22 : decode cX1_onBollard 22 = .ok (.iconst 1, 1) := by decide +kernel
theorem dX1_onBollard_23 : decode cX1_onBollard 23 = .ok (.goto 4, 3) := by decide +kernel
theorem dX1_onBollard_26 : decode cX1_onBollard 26 = .ok (.iconst 0, 1) := by decide +kernel
theorem dX1_onBollard_27 : decode cX1_onBollard 27 = .ok (.iconst 1, 1) := by decide +kernel
theorem dX1_onBollard_28 : decode cX1_onBollard 28 = .ok (.iconst 1, 1) := by decide +kernel
theorem dX1_onBollard_29 : decode cX1_onBollard 29 = .ok (.invokevirtual 62, 3) := by decide +kernel
theorem dX1_onBollard_32 : decode cX1_onBollard 32 = .ok (.ifCond .eq 17, 3) := by decide +kernel
theorem dX1_onBollard_35 : decode cX1_onBollard 35 = .ok (.aload_n 0, 1) := by decide +kernel
theorem dX1_onBollard_36 : decode cX1_onBollard 36 = .ok (.iload_n 1, 1) := by decide +kernel
theorem dX1_onBollard_37 : decode cX1_onBollard 37 = .ok (.iload_n 2, 1) := by decide +kernel
theorem dX1_onBollard_38 : decode cX1_onBollard 38 = .ok (.aload_n 0, 1) := by decide +kernel
theorem dX1_onBollard_39 : decode cX1_onBollard 39 = .ok (.iload_n 2, 1) := by decide +kernel
theorem dX1_onBollard_40 : decode cX1_onBollard 40 = .ok (.invokevirtual 94, 3) := by decide +kernel
theorem dX1_onBollard_43 : decode cX1_onBollard 43 = .ok (.invokevirtual 101, 3) := by decide +kernel
theorem dX1_onBollard_46 : decode cX1_onBollard 46 = .ok (.goto 4, 3) := by decide +kernel
theorem dX1_onBollard_49 : decode cX1_onBollard 49 = .ok (.iconst 0, 1) := by decide +kernel
theorem dX1_onBollard_50 : decode cX1_onBollard 50 = .ok (.ireturn, 1) := by decide +kernel
set_option maxRecDepth 20000 in
theorem ggX1_holds_X1_shiftAt : GoodIn wsX1_holds wsX1_shiftAt := goodIn_r _ [11, 12, 13, 14, 10, 15, 16, 17, 1, 18, 19, 20, 21, 22, 23, 24, 25, 26, 27, 28, 29, 30, 31, 32, 33, 34, 35, 36, 37, 38, 39, 40, 49, 50, 51, 52, 53, 54, 55, 56, 57, 58, 59, 60, 61, 62, 63, 64] (by decide +kernel) (by decide +kernel)
set_option maxRecDepth 20000 in
theorem gX1_holds_X1_shiftAt : GoodIn wsX1_holds (wsV RX1 94 RX1 yX1_shiftAt wsX1_shiftAt) := goodIn_app (goodIn_of _ (by decide +kernel)) ggX1_holds_X1_shiftAt
set_option maxRecDepth 20000 in
theorem ggX1_holds_X1_drifts : GoodIn wsX1_holds wsX1_drifts := goodIn_r _ [44, 7, 8, 9, 10, 11, 12, 13, 14, 15, 16, 17, 1, 18, 19, 20, 21, 22, 23, 24, 25, 26, 27, 28, 29, 30, 31, 32, 33, 34, 35, 36, 37, 38, 39, 40, 49, 50, 51, 52, 53, 54, 55, 56, 57, 58, 59, 60, 61, 62, 63, 64] (by decide +kernel) (by decide +kernel)
set_option maxRecDepth 20000 in
theorem gX1_holds_X1_drifts : GoodIn wsX1_holds (wsV RX1 98 RX1 yX1_drifts wsX1_drifts) := goodIn_app (goodIn_of _ (by decide +kernel)) ggX1_holds_X1_drifts
set_option maxRecDepth 20000 in
theorem ggX1_holds_X1_tensionAt : GoodIn wsX1_holds wsX1_tensionAt := goodIn_r _ [37, 38, 39, 40, 18, 19, 20, 10, 21, 22, 23, 24, 25, 26, 27, 28, 29, 30, 31, 32, 33, 49, 50, 51, 52, 53, 54, 55, 56, 57, 58, 59, 60, 61, 62, 63, 64] (by decide +kernel) (by decide +kernel)
set_option maxRecDepth 20000 in
theorem gX1_holds_X1_tensionAt : GoodIn wsX1_holds (wsV RX1 88 RX1 yX1_tensionAt wsX1_tensionAt) := goodIn_app (goodIn_of _ (by decide +kernel)) ggX1_holds_X1_tensionAt
set_option maxRecDepth 20000 in
theorem ggX1_holds_X1_sumOn : GoodIn wsX1_holds wsX1_sumOn := goodIn_r _ [48, 1, 29, 34, 35, 36, 10, 37, 38, 39, 40, 18, 19, 20, 21, 22, 23, 24, 25, 26, 27, 28, 30, 31, 32, 33, 49, 50, 51, 52, 53, 54, 55, 56, 57, 58, 59, 60, 61, 62, 63, 64] (by decide +kernel) (by decide +kernel)
set_option maxRecDepth 20000 in
theorem gX1_holds_X1_sumOn : GoodIn wsX1_holds (wsV RX1 101 RX1 yX1_sumOn wsX1_sumOn) := goodIn_app (goodIn_of _ (by decide +kernel)) ggX1_holds_X1_sumOn
theorem dX1_holds_0 : decode cX1_holds 0 = .ok (.aload_n 0, 1) := by decide +kernel
theorem dX1_holds_1 : decode cX1_holds 1 = .ok (.iload_n 1, 1) := by decide +kernel
theorem dX1_holds_2 : decode cX1_holds 2 = .ok (.invokevirtual 94, 3) := by decide +kernel
theorem dX1_holds_5 : decode cX1_holds 5 = .ok (.istore_n 2, 1) := by decide +kernel
theorem dX1_holds_6 : decode cX1_holds 6 = .ok (.aload_n 0, 1) := by decide +kernel
theorem dX1_holds_7 : decode cX1_holds 7 = .ok (.iload_n 1, 1) := by decide +kernel
theorem dX1_holds_8 : decode cX1_holds 8 = .ok (.invokevirtual 98, 3) := by decide +kernel
theorem dX1_holds_11 : decode cX1_holds 11 = .ok (.ifCond .ne 7, 3) := by decide +kernel
theorem dX1_holds_14 : decode cX1_holds 14 = .ok (.iconst 1, 1) := by decide +kernel
theorem dX1_holds_15 : decode cX1_holds 15 = .ok (.goto 4, 3) := by decide +kernel
theorem dX1_holds_18 : decode cX1_holds 18 = .ok (.iconst 0, 1) := by decide +kernel
theorem dX1_holds_19 : decode cX1_holds 19 = .ok (.istore_n 3, 1) := by decide +kernel
theorem dX1_holds_20 : decode cX1_holds 20 = .ok (.iconst 0, 1) := by decide +kernel
theorem dX1_holds_21 : decode cX1_holds 21 = .ok (.istore 4, 2) := by decide +kernel
theorem dX1_holds_23 : decode cX1_holds 23 = .ok (.iload 4, 2) := by decide +kernel
theorem dX1_holds_25 : decode cX1_holds 25 = .ok (.aload_n 0, 1) := by decide +kernel
theorem dX1_holds_26 : decode cX1_holds 26 = .ok (.getfield 55, 3) := by decide +kernel
theorem dX1_holds_29 : decode cX1_holds 29 = .ok (.if_icmp .ge 48, 3) := by decide +kernel
theorem dX1_holds_32 : decode cX1_holds 32 = .ok (.iload_n 3, 1) := by decide +kernel
theorem dX1_holds_33 : decode cX1_holds 33 = .ok (.ifCond .eq 36, 3) := by decide +kernel
theorem dX1_holds_36 : decode cX1_holds 36 = .ok (.ldc2_w 104, 3) := by decide +kernel
theorem dX1_holds_39 : decode cX1_holds 39 = .ok (.aload_n 0, 1) := by decide +kernel
theorem dX1_holds_40 : decode cX1_holds 40 = .ok (.iload 4, 2) := by decide +kernel
theorem dX1_holds_42 : decode cX1_holds 42 = .ok (.iload_n 1, 1) := by decide +kernel
theorem dX1_holds_43 : decode cX1_holds 43 = .ok (.iload_n 2, 1) := by decide +kernel
theorem dX1_holds_44 : decode cX1_holds 44 = .ok (.invokevirtual 88, 3) := by decide +kernel
theorem dX1_holds_47 : decode cX1_holds 47 = .ok (.i2l, 1) := by decide +kernel
theorem dX1_holds_48 : decode cX1_holds 48 = .ok (.lmul, 1) := by decide +kernel
theorem dX1_holds_49 : decode cX1_holds 49 = .ok (.ldc2_w 106, 3) := by decide +kernel
theorem dX1_holds_52 : decode cX1_holds 52 = .ok (.aload_n 0, 1) := by decide +kernel
theorem dX1_holds_53 : decode cX1_holds 53 = .ok (.getfield 25, 3) := by decide +kernel
theorem dX1_holds_56 : decode cX1_holds 56 = .ok (.iload 4, 2) := by decide +kernel
theorem dX1_holds_58 : decode cX1_holds 58 = .ok (.iaload, 1) := by decide +kernel
theorem dX1_holds_59 : decode cX1_holds 59 = .ok (.i2l, 1) := by decide +kernel
theorem dX1_holds_60 : decode cX1_holds 60 = .ok (.lmul, 1) := by decide +kernel
theorem dX1_holds_61 : decode cX1_holds 61 = .ok (.lcmp, 1) := by decide +kernel
theorem dX1_holds_62 : decode cX1_holds 62 = .ok (.ifCond .gt 7, 3) := by decide +kernel
theorem dX1_holds_65 : decode cX1_holds 65 = .ok (.iconst 1, 1) := by decide +kernel
theorem dX1_holds_66 : decode cX1_holds 66 = .ok (.goto 4, 3) := by decide +kernel
theorem dX1_holds_69 : decode cX1_holds 69 = .ok (.iconst 0, 1) := by decide +kernel
theorem dX1_holds_70 : decode cX1_holds 70 = .ok (.istore_n 3, 1) := by decide +kernel
theorem dX1_holds_71 : decode cX1_holds 71 = .ok (.iinc 4 1, 3) := by decide +kernel
theorem dX1_holds_74 : decode cX1_holds 74 = .ok (.goto (-51), 3) := by decide +kernel
theorem dX1_holds_77 : decode cX1_holds 77 = .ok (.iconst 0, 1) := by decide +kernel
theorem dX1_holds_78 : decode cX1_holds 78 = .ok (.istore 4, 2) := by decide +kernel
theorem dX1_holds_80 : decode cX1_holds 80 = .ok (.iload 4, 2) := by decide +kernel
theorem dX1_holds_82 : decode cX1_holds 82 = .ok (.aload_n 0, 1) := by decide +kernel
theorem dX1_holds_83 : decode cX1_holds 83 = .ok (.getfield 59, 3) := by decide +kernel
theorem dX1_holds_86 : decode cX1_holds 86 = .ok (.if_icmp .ge 37, 3) := by decide +kernel
theorem dX1_holds_89 : decode cX1_holds 89 = .ok (.iload_n 3, 1) := by decide +kernel
theorem dX1_holds_90 : decode cX1_holds 90 = .ok (.ifCond .eq 25, 3) := by decide +kernel
theorem dX1_holds_93 : decode cX1_holds 93 = .ok (.aload_n 0, 1) := by decide +kernel
theorem dX1_holds_94 : decode cX1_holds 94 = .ok (.iload 4, 2) := by decide +kernel
theorem dX1_holds_96 : decode cX1_holds 96 = .ok (.iload_n 1, 1) := by decide +kernel
theorem dX1_holds_97 : decode cX1_holds 97 = .ok (.iload_n 2, 1) := by decide +kernel
theorem dX1_holds_98 : decode cX1_holds 98 = .ok (.invokevirtual 101, 3) := by decide +kernel
theorem dX1_holds_101 : decode cX1_holds 101 = .ok (.aload_n 0, 1) := by decide +kernel
theorem dX1_holds_102 : decode cX1_holds 102 = .ok (.getfield 13, 3) := by decide +kernel
theorem dX1_holds_105 : decode cX1_holds 105 = .ok (.iload 4, 2) := by decide +kernel
theorem dX1_holds_107 : decode cX1_holds 107 = .ok (.iaload, 1) := by decide +kernel
theorem dX1_holds_108 : decode cX1_holds 108 = .ok (.if_icmp .gt 7, 3) := by decide +kernel
theorem dX1_holds_111 : decode cX1_holds 111 = .ok (.iconst 1, 1) := by decide +kernel
theorem dX1_holds_112 : decode cX1_holds 112 = .ok (.goto 4, 3) := by decide +kernel
theorem dX1_holds_115 : decode cX1_holds 115 = .ok (.iconst 0, 1) := by decide +kernel
theorem dX1_holds_116 : decode cX1_holds 116 = .ok (.istore_n 3, 1) := by decide +kernel
theorem dX1_holds_117 : decode cX1_holds 117 = .ok (.iinc 4 1, 3) := by decide +kernel
theorem dX1_holds_120 : decode cX1_holds 120 = .ok (.goto (-40), 3) := by decide +kernel
theorem dX1_holds_123 : decode cX1_holds 123 = .ok (.iload_n 3, 1) := by decide +kernel
theorem dX1_holds_124 : decode cX1_holds 124 = .ok (.ireturn, 1) := by decide +kernel
set_option maxRecDepth 20000 in
theorem ggX1_isSafe_X1_isHour : GoodIn wsX1_isSafe wsX1_isHour := goodIn_r _ [4, 5, 6, 3, 7] (by decide +kernel) (by decide +kernel)
set_option maxRecDepth 20000 in
theorem gX1_isSafe_X1_isHour : GoodIn wsX1_isSafe (va_wsS RX1 74 yX1_isHour wsX1_isHour) := goodIn_app (goodIn_of _ (by decide +kernel)) ggX1_isSafe_X1_isHour
set_option maxRecDepth 20000 in
theorem ggX1_isSafe_X1_goes : GoodIn wsX1_isSafe wsX1_goes := goodIn_r _ [11, 12, 64, 65, 66, 67, 68, 69, 70, 71, 72, 73, 74, 75, 76, 77, 78, 79] (by decide +kernel) (by decide +kernel)
set_option maxRecDepth 20000 in
theorem gX1_isSafe_X1_goes : GoodIn wsX1_isSafe (wsV RX1 62 RX1 yX1_goes wsX1_goes) := goodIn_app (goodIn_of _ (by decide +kernel)) ggX1_isSafe_X1_goes
set_option maxRecDepth 20000 in
theorem ggX1_isSafe_X1_holds : GoodIn wsX1_isSafe wsX1_holds := goodIn_r _ [16, 17, 18, 19, 20, 21, 22, 23, 24, 25, 3, 26, 27, 28, 29, 30, 31, 32, 33, 34, 35, 36, 37, 38, 39, 40, 41, 42, 43, 44, 45, 46, 47, 48, 49, 50, 51, 52, 53, 54, 55, 56, 57, 58, 59, 60, 61, 62, 63, 64, 65, 66, 67, 68, 69, 70, 71, 72, 73, 74, 75, 76, 77, 78, 79] (by decide +kernel) (by decide +kernel)
set_option maxRecDepth 20000 in
theorem gX1_isSafe_X1_holds : GoodIn wsX1_isSafe (wsV RX1 108 RX1 yX1_holds wsX1_holds) := goodIn_app (goodIn_of _ (by decide +kernel)) ggX1_isSafe_X1_holds
theorem dX1_isSafe_0 : decode cX1_isSafe 0 = .ok (.aload_n 0, 1) := by decide +kernel
theorem dX1_isSafe_1 : decode cX1_isSafe 1 = .ok (.iload_n 1, 1) := by decide +kernel
theorem dX1_isSafe_2 : decode cX1_isSafe 2 = .ok (.invokestatic 74, 3) := by decide +kernel
theorem dX1_isSafe_5 : decode cX1_isSafe 5 = .ok (.iconst 1, 1) := by decide +kernel
theorem dX1_isSafe_6 : decode cX1_isSafe 6 = .ok (.iconst 1, 1) := by decide +kernel
theorem dX1_isSafe_7 : decode cX1_isSafe 7 = .ok (.invokevirtual 62, 3) := by decide +kernel
theorem dX1_isSafe_10 : decode cX1_isSafe 10 = .ok (.ifCond .eq 15, 3) := by decide +kernel
theorem dX1_isSafe_13 : decode cX1_isSafe 13 = .ok (.aload_n 0, 1) := by decide +kernel
theorem dX1_isSafe_14 : decode cX1_isSafe 14 = .ok (.iload_n 1, 1) := by decide +kernel
theorem dX1_isSafe_15 : decode cX1_isSafe 15 = .ok (.invokevirtual 108, 3) := by decide +kernel
theorem dX1_isSafe_18 : decode cX1_isSafe 18 = .ok (.ifCond .eq 7, 3) := by decide +kernel
theorem dX1_isSafe_21 : decode cX1_isSafe 21 = .ok (.iconst 1, 1) := by decide +kernel
theorem dX1_isSafe_22 : decode cX1_isSafe 22 = .ok (.goto 4, 3) := by decide +kernel
theorem dX1_isSafe_25 : decode cX1_isSafe 25 = .ok (.iconst 0, 1) := by decide +kernel
theorem dX1_isSafe_26 : decode cX1_isSafe 26 = .ok (.ireturn, 1) := by decide +kernel
set_option maxRecDepth 20000 in
theorem ggX1_firstUnsafe_X1_isHour : GoodIn wsX1_firstUnsafe wsX1_isHour := goodIn_r _ [4, 5, 6, 3, 7] (by decide +kernel) (by decide +kernel)
set_option maxRecDepth 20000 in
theorem gX1_firstUnsafe_X1_isHour : GoodIn wsX1_firstUnsafe (va_wsS RX1 74 yX1_isHour wsX1_isHour) := goodIn_app (goodIn_of _ (by decide +kernel)) ggX1_firstUnsafe_X1_isHour
set_option maxRecDepth 20000 in
theorem ggX1_firstUnsafe_X1_goes : GoodIn wsX1_firstUnsafe wsX1_goes := goodIn_r _ [11, 12, 64, 65, 66, 67, 68, 69, 70, 71, 72, 73, 74, 75, 76, 77, 78, 79] (by decide +kernel) (by decide +kernel)
set_option maxRecDepth 20000 in
theorem gX1_firstUnsafe_X1_goes : GoodIn wsX1_firstUnsafe (wsV RX1 62 RX1 yX1_goes wsX1_goes) := goodIn_app (goodIn_of _ (by decide +kernel)) ggX1_firstUnsafe_X1_goes
set_option maxRecDepth 20000 in
theorem ggX1_firstUnsafe_X1_holds : GoodIn wsX1_firstUnsafe wsX1_holds := goodIn_r _ [16, 17, 18, 19, 20, 21, 22, 23, 24, 25, 3, 26, 27, 28, 29, 30, 31, 32, 33, 34, 35, 36, 37, 38, 39, 40, 41, 42, 43, 44, 45, 46, 47, 48, 49, 50, 51, 52, 53, 54, 55, 56, 57, 58, 59, 60, 61, 62, 63, 64, 65, 66, 67, 68, 69, 70, 71, 72, 73, 74, 75, 76, 77, 78, 79] (by decide +kernel) (by decide +kernel)
set_option maxRecDepth 20000 in
theorem gX1_firstUnsafe_X1_holds : GoodIn wsX1_firstUnsafe (wsV RX1 108 RX1 yX1_holds wsX1_holds) := goodIn_app (goodIn_of _ (by decide +kernel)) ggX1_firstUnsafe_X1_holds
theorem dX1_firstUnsafe_0 : decode cX1_firstUnsafe 0 = .ok (.aload_n 0, 1) := by decide +kernel
theorem dX1_firstUnsafe_1 : decode cX1_firstUnsafe 1 = .ok (.iload_n 1, 1) := by decide +kernel
theorem dX1_firstUnsafe_2 : decode cX1_firstUnsafe 2 = .ok (.invokestatic 74, 3) := by decide +kernel
theorem dX1_firstUnsafe_5 : decode cX1_firstUnsafe 5 = .ok (.iconst 1, 1) := by decide +kernel
theorem dX1_firstUnsafe_6 : decode cX1_firstUnsafe 6 = .ok (.iconst 1, 1) := by decide +kernel
theorem dX1_firstUnsafe_7 : decode cX1_firstUnsafe 7 = .ok (.invokevirtual 62, 3) := by decide +kernel
theorem dX1_firstUnsafe_10 : decode cX1_firstUnsafe 10 = .ok (.ifCond .ne 5, 3) := by decide +kernel
theorem dX1_firstUnsafe_13 : decode cX1_firstUnsafe 13 = .ok (.iconst 0, 1) := by decide +kernel
theorem dX1_firstUnsafe_14 : decode cX1_firstUnsafe 14 = .ok (.ireturn, 1) := by decide +kernel
theorem dX1_firstUnsafe_15 : decode cX1_firstUnsafe 15 = .ok (.iload_n 1, 1) := by decide +kernel
theorem dX1_firstUnsafe_16 : decode cX1_firstUnsafe 16 = .ok (.istore_n 2, 1) := by decide +kernel
theorem dX1_firstUnsafe_17 : decode cX1_firstUnsafe 17 = .ok (.iload_n 2, 1) := by decide +kernel
theorem dX1_firstUnsafe_18 : decode cX1_firstUnsafe 18 = .ok (.bipush 48, 2) := by decide +kernel
theorem dX1_firstUnsafe_20 : decode cX1_firstUnsafe 20 = .ok (.if_icmp .ge 19, 3) := by decide +kernel
theorem dX1_firstUnsafe_23 : decode cX1_firstUnsafe 23 = .ok (.aload_n 0, 1) := by decide +kernel
theorem dX1_firstUnsafe_24 : decode cX1_firstUnsafe 24 = .ok (.iload_n 2, 1) := by decide +kernel
theorem dX1_firstUnsafe_25 : decode cX1_firstUnsafe 25 = .ok (.invokevirtual 108, 3) := by decide +kernel
theorem dX1_firstUnsafe_28 : decode cX1_firstUnsafe 28 = .ok (.ifCond .ne 5, 3) := by decide +kernel
theorem dX1_firstUnsafe_31 : decode cX1_firstUnsafe 31 = .ok (.iload_n 2, 1) := by decide +kernel
theorem dX1_firstUnsafe_32 : decode cX1_firstUnsafe 32 = .ok (.ireturn, 1) := by decide +kernel
theorem dX1_firstUnsafe_33 : decode cX1_firstUnsafe 33 = .ok (.iinc 2 1, 3) := by decide +kernel
theorem dX1_firstUnsafe_36 : decode cX1_firstUnsafe 36 = .ok (.goto (-19), 3) := by decide +kernel
theorem dX1_firstUnsafe_39 : decode cX1_firstUnsafe 39 = .ok (.iconst (-1), 1) := by decide +kernel
theorem dX1_firstUnsafe_40 : decode cX1_firstUnsafe 40 = .ok (.ireturn, 1) := by decide +kernel
set_option maxRecDepth 20000 in
theorem ggX1_tend_X1_isLine : GoodIn wsX1_tend wsX1_isLine := goodIn_r _ [7, 8, 9, 10, 6, 11, 51, 52, 53, 54, 55, 56, 57, 58, 59, 60, 61, 62, 63, 64, 65, 66] (by decide +kernel) (by decide +kernel)
set_option maxRecDepth 20000 in
theorem gX1_tend_X1_isLine : GoodIn wsX1_tend (wsV RX1 70 RX1 yX1_isLine wsX1_isLine) := goodIn_app (goodIn_of _ (by decide +kernel)) ggX1_tend_X1_isLine
set_option maxRecDepth 20000 in
theorem ggX1_tend_X1_isHour : GoodIn wsX1_tend wsX1_isHour := goodIn_r _ [14, 9, 10, 6, 11] (by decide +kernel) (by decide +kernel)
set_option maxRecDepth 20000 in
theorem gX1_tend_X1_isHour : GoodIn wsX1_tend (va_wsS RX1 74 yX1_isHour wsX1_isHour) := goodIn_app (goodIn_of _ (by decide +kernel)) ggX1_tend_X1_isHour
set_option maxRecDepth 20000 in
theorem ggX1_tend_X1_in : GoodIn wsX1_tend wsX1_in := goodIn_r _ [11] (by decide +kernel) (by decide +kernel)
set_option maxRecDepth 20000 in
theorem gX1_tend_X1_in : GoodIn wsX1_tend (va_wsS RX1 51 yX1_in wsX1_in) := goodIn_app (goodIn_of _ (by decide +kernel)) ggX1_tend_X1_in
set_option maxRecDepth 20000 in
theorem ggX1_tend_X1_goes : GoodIn wsX1_tend wsX1_goes := goodIn_r _ [18, 19, 51, 52, 53, 54, 55, 56, 57, 58, 59, 60, 61, 62, 63, 64, 65, 66] (by decide +kernel) (by decide +kernel)
set_option maxRecDepth 20000 in
theorem gX1_tend_X1_goes : GoodIn wsX1_tend (wsV RX1 62 RX1 yX1_goes wsX1_goes) := goodIn_app (goodIn_of _ (by decide +kernel)) ggX1_tend_X1_goes
set_option maxRecDepth 20000 in
theorem ggX1_tend_X1_shiftAt : GoodIn wsX1_tend wsX1_shiftAt := goodIn_r _ [23, 24, 25, 26, 6, 27, 28, 29, 8, 30, 31, 32, 33, 34, 35, 36, 37, 38, 39, 40, 41, 42, 43, 44, 45, 46, 47, 48, 49, 2, 1, 50, 51, 52, 53, 54, 55, 56, 57, 58, 59, 60, 61, 62, 63, 64, 65, 66] (by decide +kernel) (by decide +kernel)
set_option maxRecDepth 20000 in
theorem gX1_tend_X1_shiftAt : GoodIn wsX1_tend (wsV RX1 94 RX1 yX1_shiftAt wsX1_shiftAt) := goodIn_app (goodIn_of _ (by decide +kernel)) ggX1_tend_X1_shiftAt
set_option maxRecDepth 20000 in
theorem ggX1_tend_X1_lengthAt : GoodIn wsX1_tend wsX1_lengthAt := goodIn_r _ [33, 34, 35, 36, 37, 38, 6, 39, 40, 41, 42, 43, 44, 45, 51, 52, 53, 54, 55, 56, 57, 58, 59, 60, 61, 62, 63, 64, 65, 66] (by decide +kernel) (by decide +kernel)
set_option maxRecDepth 20000 in
theorem gX1_tend_X1_lengthAt : GoodIn wsX1_tend (wsV RX1 84 RX1 yX1_lengthAt wsX1_lengthAt) := goodIn_app (goodIn_of _ (by decide +kernel)) ggX1_tend_X1_lengthAt
theorem dX1_tend_0 : decode cX1_tend 0 = .ok (.aload_n 0, 1) := by decide +kernel
theorem dX1_tend_1 : decode cX1_tend 1 = .ok (.iload_n 1, 1) := by decide +kernel
theorem dX1_tend_2 : decode cX1_tend 2 = .ok (.invokevirtual 70, 3) := by decide +kernel
theorem dX1_tend_5 : decode cX1_tend 5 = .ok (.ifCond .eq 14, 3) := by decide +kernel
theorem dX1_tend_8 : decode cX1_tend 8 = .ok (.iload_n 2, 1) := by decide +kernel
theorem dX1_tend_9 : decode cX1_tend 9 = .ok (.invokestatic 74, 3) := by decide +kernel
theorem dX1_tend_12 : decode cX1_tend 12 = .ok (.ifCond .eq 7, 3) := by decide +kernel
theorem dX1_tend_15 : decode cX1_tend 15 = .ok (.iconst 1, 1) := by decide +kernel
theorem dX1_tend_16 : decode cX1_tend 16 = .ok (.goto 4, 3) := by decide +kernel
theorem dX1_tend_19 : decode cX1_tend 19 = .ok (.iconst 0, 1) := by decide +kernel
theorem dX1_tend_20 : decode cX1_tend 20 = .ok (.istore 4, 2) := by decide +kernel
theorem dX1_tend_22 : decode cX1_tend 22 = .ok (.aload_n 0, 1) := by decide +kernel
theorem dX1_tend_23 : decode cX1_tend 23 = .ok (.iload 4, 2) := by decide +kernel
theorem dX1_tend_25 : decode cX1_tend 25 = .ok (.iload_n 3, 1) := by decide +kernel
theorem dX1_tend_26 : decode cX1_tend 26 = .ok (.bipush (-100), 2) := by decide +kernel
theorem dX1_tend_28 : decode cX1_tend 28 = .ok (.bipush 100, 2) := by decide +kernel
theorem dX1_tend_30 : decode cX1_tend 30 = .ok (.invokestatic 51, 3) := by decide +kernel
theorem dX1_tend_33 : decode cX1_tend 33 = .ok (.iload 4, 2) := by decide +kernel
theorem dX1_tend_35 : decode cX1_tend 35 = .ok (.ifCond .eq 16, 3) := by decide +kernel
theorem dX1_tend_38 : decode cX1_tend 38 = .ok (.aload_n 0, 1) := by decide +kernel
theorem dX1_tend_39 : decode cX1_tend 39 = .ok (.getfield 31, 3) := by decide +kernel
theorem dX1_tend_42 : decode cX1_tend 42 = .ok (.iload_n 1, 1) := by decide +kernel
theorem dX1_tend_43 : decode cX1_tend 43 = .ok (.baload, 1) := by decide +kernel
theorem dX1_tend_44 : decode cX1_tend 44 = .ok (.ifCond .ne 7, 3) := by decide +kernel
theorem dX1_tend_47 : decode cX1_tend 47 = .ok (.iconst 1, 1) := by decide +kernel
theorem dX1_tend_48 : decode cX1_tend 48 = .ok (.goto 4, 3) := by decide +kernel
theorem dX1_tend_51 : decode cX1_tend 51 = .ok (.iconst 0, 1) := by decide +kernel
theorem dX1_tend_52 : decode cX1_tend 52 = .ok (.invokevirtual 62, 3) := by decide +kernel
theorem dX1_tend_55 : decode cX1_tend 55 = .ok (.ifCond .ne 5, 3) := by decide +kernel
theorem dX1_tend_58 : decode cX1_tend 58 = .ok (.iconst 0, 1) := by decide +kernel
theorem dX1_tend_59 : decode cX1_tend 59 = .ok (.ireturn, 1) := by decide +kernel
theorem dX1_tend_60 : decode cX1_tend 60 = .ok (.aload_n 0, 1) := by decide +kernel
theorem dX1_tend_61 : decode cX1_tend 61 = .ok (.iload_n 1, 1) := by decide +kernel
theorem dX1_tend_62 : decode cX1_tend 62 = .ok (.iload_n 2, 1) := by decide +kernel
theorem dX1_tend_63 : decode cX1_tend 63 = .ok (.aload_n 0, 1) := by decide +kernel
theorem dX1_tend_64 : decode cX1_tend 64 = .ok (.iload_n 2, 1) := by decide +kernel
theorem dX1_tend_65 : decode cX1_tend 65 = .ok (.invokevirtual 94, 3) := by decide +kernel
theorem dX1_tend_68 : decode cX1_tend 68 = .ok (.invokevirtual 84, 3) := by decide +kernel
theorem dX1_tend_71 : decode cX1_tend 71 = .ok (.iload_n 3, 1) := by decide +kernel
theorem dX1_tend_72 : decode cX1_tend 72 = .ok (.iadd, 1) := by decide +kernel
theorem dX1_tend_73 : decode cX1_tend 73 = .ok (.istore 5, 2) := by decide +kernel
theorem dX1_tend_75 : decode cX1_tend 75 = .ok (.aload_n 0, 1) := by decide +kernel
theorem dX1_tend_76 : decode cX1_tend 76 = .ok (.getfield 28, 3) := by decide +kernel
theorem dX1_tend_79 : decode cX1_tend 79 = .ok (.iload_n 1, 1) := by decide +kernel
theorem dX1_tend_80 : decode cX1_tend 80 = .ok (.iload 5, 2) := by decide +kernel
theorem dX1_tend_82 : decode cX1_tend 82 = .ok (.ifCond .ge 7, 3) := by decide +kernel
theorem dX1_tend_85 : decode cX1_tend 85 = .ok (.iconst 0, 1) := by decide +kernel
theorem dX1_tend_86 : decode cX1_tend 86 = .ok (.goto 5, 3) := by decide +kernel
theorem dX1_tend_89 : decode cX1_tend 89 = .ok (.iload 5, 2) := by decide +kernel
theorem dX1_tend_91 : decode cX1_tend 91 = .ok (.iastore, 1) := by decide +kernel
theorem dX1_tend_92 : decode cX1_tend 92 = .ok (.aload_n 0, 1) := by decide +kernel
theorem dX1_tend_93 : decode cX1_tend 93 = .ok (.getfield 28, 3) := by decide +kernel
theorem dX1_tend_96 : decode cX1_tend 96 = .ok (.iload_n 1, 1) := by decide +kernel
theorem dX1_tend_97 : decode cX1_tend 97 = .ok (.iaload, 1) := by decide +kernel
theorem dX1_tend_98 : decode cX1_tend 98 = .ok (.ireturn, 1) := by decide +kernel
set_option maxRecDepth 20000 in
theorem ggX1_tends_X1_shiftAt : GoodIn wsX1_tends wsX1_shiftAt := goodIn_r _ [8, 9, 10, 11, 7, 12, 13, 14, 1, 15, 16, 17, 18, 19, 20, 21, 22, 23, 24, 25, 26, 27, 28, 29, 30, 31, 32, 33, 34, 3, 2, 35, 36, 37, 38, 39, 40, 41, 42, 43, 44, 45, 46, 47, 48, 49, 50, 51] (by decide +kernel) (by decide +kernel)
set_option maxRecDepth 20000 in
theorem gX1_tends_X1_shiftAt : GoodIn wsX1_tends (wsV RX1 94 RX1 yX1_shiftAt wsX1_shiftAt) := goodIn_app (goodIn_of _ (by decide +kernel)) ggX1_tends_X1_shiftAt
set_option maxRecDepth 20000 in
theorem ggX1_tends_X1_lengthAt : GoodIn wsX1_tends wsX1_lengthAt := goodIn_r _ [18, 19, 20, 21, 22, 23, 7, 24, 25, 26, 27, 28, 29, 30, 36, 37, 38, 39, 40, 41, 42, 43, 44, 45, 46, 47, 48, 49, 50, 51] (by decide +kernel) (by decide +kernel)
set_option maxRecDepth 20000 in
theorem gX1_tends_X1_lengthAt : GoodIn wsX1_tends (wsV RX1 84 RX1 yX1_lengthAt wsX1_lengthAt) := goodIn_app (goodIn_of _ (by decide +kernel)) ggX1_tends_X1_lengthAt
theorem dX1_tends_0 : decode cX1_tends 0 = .ok (.iconst 0, 1) := by decide +kernel
theorem dX1_tends_1 : decode cX1_tends 1 = .ok (.istore_n 2, 1) := by decide +kernel
theorem dX1_tends_2 : decode cX1_tends 2 = .ok (.aload_n 0, 1) := by decide +kernel
theorem dX1_tends_3 : decode cX1_tends 3 = .ok (.iload_n 1, 1) := by decide +kernel
theorem dX1_tends_4 : decode cX1_tends 4 = .ok (.invokevirtual 94, 3) := by decide +kernel
theorem dX1_tends_7 : decode cX1_tends 7 = .ok (.istore_n 3, 1) := by decide +kernel
theorem dX1_tends_8 : decode cX1_tends 8 = .ok (.iconst 0, 1) := by decide +kernel
theorem dX1_tends_9 : decode cX1_tends 9 = .ok (.istore 4, 2) := by decide +kernel
theorem dX1_tends_11 : decode cX1_tends 11 = .ok (.iload 4, 2) := by decide +kernel
theorem dX1_tends_13 : decode cX1_tends 13 = .ok (.aload_n 0, 1) := by decide +kernel
theorem dX1_tends_14 : decode cX1_tends 14 = .ok (.getfield 55, 3) := by decide +kernel
theorem dX1_tends_17 : decode cX1_tends 17 = .ok (.if_icmp .ge 58, 3) := by decide +kernel
theorem dX1_tends_20 : decode cX1_tends 20 = .ok (.aload_n 0, 1) := by decide +kernel
theorem dX1_tends_21 : decode cX1_tends 21 = .ok (.getfield 31, 3) := by decide +kernel
theorem dX1_tends_24 : decode cX1_tends 24 = .ok (.iload 4, 2) := by decide +kernel
theorem dX1_tends_26 : decode cX1_tends 26 = .ok (.baload, 1) := by decide +kernel
theorem dX1_tends_27 : decode cX1_tends 27 = .ok (.ifCond .ne 42, 3) := by decide +kernel
theorem dX1_tends_30 : decode cX1_tends 30 = .ok (.aload_n 0, 1) := by decide +kernel
theorem dX1_tends_31 : decode cX1_tends 31 = .ok (.iload 4, 2) := by decide +kernel
theorem dX1_tends_33 : decode cX1_tends 33 = .ok (.iload_n 1, 1) := by decide +kernel
theorem dX1_tends_34 : decode cX1_tends 34 = .ok (.iload_n 3, 1) := by decide +kernel
theorem dX1_tends_35 : decode cX1_tends 35 = .ok (.invokevirtual 84, 3) := by decide +kernel
theorem dX1_tends_38 : decode cX1_tends 38 = .ok (.istore 5, 2) := by decide +kernel
theorem dX1_tends_40 : decode cX1_tends 40 = .ok (.iload_n 2, 1) := by decide +kernel
theorem dX1_tends_41 : decode cX1_tends 41 = .ok (.iload 5, 2) := by decide +kernel
theorem dX1_tends_43 : decode cX1_tends 43 = .ok (.aload_n 0, 1) := by decide +kernel
theorem dX1_tends_44 : decode cX1_tends 44 = .ok (.getfield 28, 3) := by decide +kernel
theorem dX1_tends_47 : decode cX1_tends 47 = .ok (.iload 4, 2) := by decide +kernel
theorem dX1_tends_49 : decode cX1_tends 49 = .ok (.iaload, 1) := by decide +kernel
theorem dX1_tends_50 : decode cX1_tends 50 = .ok (.if_icmp .eq 7, 3) := by decide +kernel
theorem dX1_tends_53 : decode cX1_tends 53 = .ok (.iconst 1, 1) := by decide +kernel
theorem dX1_tends_54 : decode cX1_tends 54 = .ok (.goto 4, 3) := by decide +kernel
theorem dX1_tends_57 : decode cX1_tends 57 = .ok (.iconst 0, 1) := by decide +kernel
theorem dX1_tends_58 : decode cX1_tends 58 = .ok (.iadd, 1) := by decide +kernel
theorem dX1_tends_59 : decode cX1_tends 59 = .ok (.istore_n 2, 1) := by decide +kernel
theorem dX1_tends_60 : decode cX1_tends 60 = .ok (.aload_n 0, 1) := by decide +kernel
theorem dX1_tends_61 : decode cX1_tends 61 = .ok (.getfield 28, 3) := by decide +kernel
theorem dX1_tends_64 : decode cX1_tends 64 = .ok (.iload 4, 2) := by decide +kernel
theorem dX1_tends_66 : decode cX1_tends 66 = .ok (.iload 5, 2) := by decide +kernel
theorem dX1_tends_68 : decode cX1_tends 68 = .ok (.iastore, 1) := by decide +kernel
theorem dX1_tends_69 : decode cX1_tends 69 = .ok (.iinc 4 1, 3) := by decide +kernel
theorem dX1_tends_72 : decode cX1_tends 72 = .ok (.goto (-61), 3) := by decide +kernel
theorem dX1_tends_75 : decode cX1_tends 75 = .ok (.iload_n 2, 1) := by decide +kernel
theorem dX1_tends_76 : decode cX1_tends 76 = .ok (.ireturn, 1) := by decide +kernel
set_option maxRecDepth 20000 in
theorem ggX1_tendAll_X1_isHour : GoodIn wsX1_tendAll wsX1_isHour := goodIn_r _ [4, 5, 6, 3, 7] (by decide +kernel) (by decide +kernel)
set_option maxRecDepth 20000 in
theorem gX1_tendAll_X1_isHour : GoodIn wsX1_tendAll (va_wsS RX1 74 yX1_isHour wsX1_isHour) := goodIn_app (goodIn_of _ (by decide +kernel)) ggX1_tendAll_X1_isHour
set_option maxRecDepth 20000 in
theorem ggX1_tendAll_X1_goes : GoodIn wsX1_tendAll wsX1_goes := goodIn_r _ [11, 12, 51, 52, 53, 54, 55, 56, 57, 58, 59, 60, 61, 62, 63, 64, 65, 66] (by decide +kernel) (by decide +kernel)
set_option maxRecDepth 20000 in
theorem gX1_tendAll_X1_goes : GoodIn wsX1_tendAll (wsV RX1 62 RX1 yX1_goes wsX1_goes) := goodIn_app (goodIn_of _ (by decide +kernel)) ggX1_tendAll_X1_goes
set_option maxRecDepth 20000 in
theorem ggX1_tendAll_X1_tends : GoodIn wsX1_tendAll wsX1_tends := goodIn_r _ [16, 17, 18, 19, 20, 21, 22, 3, 23, 24, 25, 26, 27, 28, 29, 30, 31, 32, 33, 34, 35, 36, 37, 38, 39, 40, 41, 42, 43, 44, 45, 46, 47, 48, 49, 50, 51, 52, 53, 54, 55, 56, 57, 58, 59, 60, 61, 62, 63, 64, 65, 66] (by decide +kernel) (by decide +kernel)
set_option maxRecDepth 20000 in
theorem gX1_tendAll_X1_tends : GoodIn wsX1_tendAll (wsV RX1 111 RX1 yX1_tends wsX1_tends) := goodIn_app (goodIn_of _ (by decide +kernel)) ggX1_tendAll_X1_tends
theorem dX1_tendAll_0 : decode cX1_tendAll 0 = .ok (.aload_n 0, 1) := by decide +kernel
theorem dX1_tendAll_1 : decode cX1_tendAll 1 = .ok (.iload_n 1, 1) := by decide +kernel
theorem dX1_tendAll_2 : decode cX1_tendAll 2 = .ok (.invokestatic 74, 3) := by decide +kernel
theorem dX1_tendAll_5 : decode cX1_tendAll 5 = .ok (.iconst 1, 1) := by decide +kernel
theorem dX1_tendAll_6 : decode cX1_tendAll 6 = .ok (.iconst 1, 1) := by decide +kernel
theorem dX1_tendAll_7 : decode cX1_tendAll 7 = .ok (.invokevirtual 62, 3) := by decide +kernel
theorem dX1_tendAll_10 : decode cX1_tendAll 10 = .ok (.ifCond .eq 11, 3) := by decide +kernel
theorem dX1_tendAll_13 : decode cX1_tendAll 13 = .ok (.aload_n 0, 1) := by decide +kernel
theorem dX1_tendAll_14 : decode cX1_tendAll 14 = .ok (.iload_n 1, 1) := by decide +kernel
theorem dX1_tendAll_15 : decode cX1_tendAll 15 = .ok (.invokevirtual 111, 3) := by decide +kernel
theorem dX1_tendAll_18 : decode cX1_tendAll 18 = .ok (.goto 4, 3) := by decide +kernel
theorem dX1_tendAll_21 : decode cX1_tendAll 21 = .ok (.iconst 0, 1) := by decide +kernel
theorem dX1_tendAll_22 : decode cX1_tendAll 22 = .ok (.ireturn, 1) := by decide +kernel
set_option maxRecDepth 20000 in
theorem ggX1_plan_X1_isHour : GoodIn wsX1_plan wsX1_isHour := goodIn_r _ [7, 8, 9, 6, 10] (by decide +kernel) (by decide +kernel)
set_option maxRecDepth 20000 in
theorem gX1_plan_X1_isHour : GoodIn wsX1_plan (va_wsS RX1 74 yX1_isHour wsX1_isHour) := goodIn_app (goodIn_of _ (by decide +kernel)) ggX1_plan_X1_isHour
set_option maxRecDepth 20000 in
theorem ggX1_plan_X1_goes : GoodIn wsX1_plan wsX1_goes := goodIn_r _ [14, 15, 69, 70, 71, 72, 73, 74, 75, 76, 77, 78, 79, 80, 81, 82, 83, 84] (by decide +kernel) (by decide +kernel)
set_option maxRecDepth 20000 in
theorem gX1_plan_X1_goes : GoodIn wsX1_plan (wsV RX1 62 RX1 yX1_goes wsX1_goes) := goodIn_app (goodIn_of _ (by decide +kernel)) ggX1_plan_X1_goes
set_option maxRecDepth 20000 in
theorem ggX1_plan_X1_holds : GoodIn wsX1_plan wsX1_holds := goodIn_r _ [19, 1, 20, 21, 22, 23, 24, 25, 26, 27, 6, 28, 29, 30, 31, 32, 33, 34, 35, 36, 37, 38, 39, 40, 41, 42, 43, 44, 45, 46, 47, 48, 49, 50, 51, 52, 53, 54, 3, 55, 56, 57, 58, 59, 60, 61, 62, 63, 64, 69, 70, 71, 72, 73, 74, 75, 76, 77, 78, 79, 80, 81, 82, 83, 84] (by decide +kernel) (by decide +kernel)
set_option maxRecDepth 20000 in
theorem gX1_plan_X1_holds : GoodIn wsX1_plan (wsV RX1 108 RX1 yX1_holds wsX1_holds) := goodIn_app (goodIn_of _ (by decide +kernel)) ggX1_plan_X1_holds
set_option maxRecDepth 20000 in
theorem ggX1_plan_X1_tends : GoodIn wsX1_plan wsX1_tends := goodIn_r _ [68, 1, 55, 3, 25, 26, 27, 6, 28, 29, 30, 31, 32, 33, 34, 35, 36, 37, 38, 39, 40, 41, 42, 43, 44, 45, 46, 47, 48, 49, 50, 51, 52, 53, 54, 56, 69, 70, 71, 72, 73, 74, 75, 76, 77, 78, 79, 80, 81, 82, 83, 84] (by decide +kernel) (by decide +kernel)
set_option maxRecDepth 20000 in
theorem gX1_plan_X1_tends : GoodIn wsX1_plan (wsV RX1 111 RX1 yX1_tends wsX1_tends) := goodIn_app (goodIn_of _ (by decide +kernel)) ggX1_plan_X1_tends
theorem dX1_plan_0 : decode cX1_plan 0 = .ok (.aload_n 0, 1) := by decide +kernel
theorem dX1_plan_1 : decode cX1_plan 1 = .ok (.iload_n 1, 1) := by decide +kernel
theorem dX1_plan_2 : decode cX1_plan 2 = .ok (.invokestatic 74, 3) := by decide +kernel
theorem dX1_plan_5 : decode cX1_plan 5 = .ok (.ifCond .eq 14, 3) := by decide +kernel
theorem dX1_plan_8 : decode cX1_plan 8 = .ok (.iload_n 2, 1) := by decide +kernel
theorem dX1_plan_9 : decode cX1_plan 9 = .ok (.invokestatic 74, 3) := by decide +kernel
theorem dX1_plan_12 : decode cX1_plan 12 = .ok (.ifCond .eq 7, 3) := by decide +kernel
theorem dX1_plan_15 : decode cX1_plan 15 = .ok (.iconst 1, 1) := by decide +kernel
theorem dX1_plan_16 : decode cX1_plan 16 = .ok (.goto 4, 3) := by decide +kernel
theorem dX1_plan_19 : decode cX1_plan 19 = .ok (.iconst 0, 1) := by decide +kernel
theorem dX1_plan_20 : decode cX1_plan 20 = .ok (.iload_n 2, 1) := by decide +kernel
theorem dX1_plan_21 : decode cX1_plan 21 = .ok (.iload_n 1, 1) := by decide +kernel
theorem dX1_plan_22 : decode cX1_plan 22 = .ok (.if_icmp .lt 7, 3) := by decide +kernel
theorem dX1_plan_25 : decode cX1_plan 25 = .ok (.iconst 1, 1) := by decide +kernel
theorem dX1_plan_26 : decode cX1_plan 26 = .ok (.goto 4, 3) := by decide +kernel
theorem dX1_plan_29 : decode cX1_plan 29 = .ok (.iconst 0, 1) := by decide +kernel
theorem dX1_plan_30 : decode cX1_plan 30 = .ok (.iconst 1, 1) := by decide +kernel
theorem dX1_plan_31 : decode cX1_plan 31 = .ok (.invokevirtual 62, 3) := by decide +kernel
theorem dX1_plan_34 : decode cX1_plan 34 = .ok (.ifCond .ne 5, 3) := by decide +kernel
theorem dX1_plan_37 : decode cX1_plan 37 = .ok (.iconst 0, 1) := by decide +kernel
theorem dX1_plan_38 : decode cX1_plan 38 = .ok (.ireturn, 1) := by decide +kernel
theorem dX1_plan_39 : decode cX1_plan 39 = .ok (.iconst 0, 1) := by decide +kernel
theorem dX1_plan_40 : decode cX1_plan 40 = .ok (.istore_n 3, 1) := by decide +kernel
theorem dX1_plan_41 : decode cX1_plan 41 = .ok (.iload_n 3, 1) := by decide +kernel
theorem dX1_plan_42 : decode cX1_plan 42 = .ok (.aload_n 0, 1) := by decide +kernel
theorem dX1_plan_43 : decode cX1_plan 43 = .ok (.getfield 55, 3) := by decide +kernel
theorem dX1_plan_46 : decode cX1_plan 46 = .ok (.if_icmp .ge 21, 3) := by decide +kernel
theorem dX1_plan_49 : decode cX1_plan 49 = .ok (.aload_n 0, 1) := by decide +kernel
theorem dX1_plan_50 : decode cX1_plan 50 = .ok (.getfield 44, 3) := by decide +kernel
theorem dX1_plan_53 : decode cX1_plan 53 = .ok (.iload_n 3, 1) := by decide +kernel
theorem dX1_plan_54 : decode cX1_plan 54 = .ok (.aload_n 0, 1) := by decide +kernel
theorem dX1_plan_55 : decode cX1_plan 55 = .ok (.getfield 28, 3) := by decide +kernel
theorem dX1_plan_58 : decode cX1_plan 58 = .ok (.iload_n 3, 1) := by decide +kernel
theorem dX1_plan_59 : decode cX1_plan 59 = .ok (.iaload, 1) := by decide +kernel
theorem dX1_plan_60 : decode cX1_plan 60 = .ok (.iastore, 1) := by decide +kernel
theorem dX1_plan_61 : decode cX1_plan 61 = .ok (.iinc 3 1, 3) := by decide +kernel
theorem dX1_plan_64 : decode cX1_plan 64 = .ok (.goto (-23), 3) := by decide +kernel
theorem dX1_plan_67 : decode cX1_plan 67 = .ok (.iconst 0, 1) := by decide +kernel
theorem dX1_plan_68 : decode cX1_plan 68 = .ok (.istore_n 3, 1) := by decide +kernel
theorem dX1_plan_69 : decode cX1_plan 69 = .ok (.iload_n 1, 1) := by decide +kernel
theorem dX1_plan_70 : decode cX1_plan 70 = .ok (.istore 4, 2) := by decide +kernel
theorem dX1_plan_72 : decode cX1_plan 72 = .ok (.iload 4, 2) := by decide +kernel
theorem dX1_plan_74 : decode cX1_plan 74 = .ok (.iload_n 2, 1) := by decide +kernel
theorem dX1_plan_75 : decode cX1_plan 75 = .ok (.if_icmp .gt 46, 3) := by decide +kernel
theorem dX1_plan_78 : decode cX1_plan 78 = .ok (.iload_n 3, 1) := by decide +kernel
theorem dX1_plan_79 : decode cX1_plan 79 = .ok (.ifCond .lt 42, 3) := by decide +kernel
theorem dX1_plan_82 : decode cX1_plan 82 = .ok (.aload_n 0, 1) := by decide +kernel
theorem dX1_plan_83 : decode cX1_plan 83 = .ok (.iload 4, 2) := by decide +kernel
theorem dX1_plan_85 : decode cX1_plan 85 = .ok (.invokevirtual 108, 3) := by decide +kernel
theorem dX1_plan_88 : decode cX1_plan 88 = .ok (.ifCond .ne 27, 3) := by decide +kernel
theorem dX1_plan_91 : decode cX1_plan 91 = .ok (.aload_n 0, 1) := by decide +kernel
theorem dX1_plan_92 : decode cX1_plan 92 = .ok (.iload 4, 2) := by decide +kernel
theorem dX1_plan_94 : decode cX1_plan 94 = .ok (.invokevirtual 111, 3) := by decide +kernel
theorem dX1_plan_97 : decode cX1_plan 97 = .ok (.pop, 1) := by decide +kernel
theorem dX1_plan_98 : decode cX1_plan 98 = .ok (.aload_n 0, 1) := by decide +kernel
theorem dX1_plan_99 : decode cX1_plan 99 = .ok (.iload 4, 2) := by decide +kernel
theorem dX1_plan_101 : decode cX1_plan 101 = .ok (.invokevirtual 108, 3) := by decide +kernel
theorem dX1_plan_104 : decode cX1_plan 104 = .ok (.ifCond .eq 9, 3) := by decide +kernel
theorem dX1_plan_107 : decode cX1_plan 107 = .ok (.iload_n 3, 1) := by decide +kernel
theorem dX1_plan_108 : decode cX1_plan 108 = .ok (.iconst 1, 1) := by decide +kernel
theorem dX1_plan_109 : decode cX1_plan 109 = .ok (.iadd, 1) := by decide +kernel
theorem dX1_plan_110 : decode cX1_plan 110 = .ok (.goto 4, 3) := by decide +kernel
theorem dX1_plan_113 : decode cX1_plan 113 = .ok (.iconst (-1), 1) := by decide +kernel
theorem dX1_plan_114 : decode cX1_plan 114 = .ok (.istore_n 3, 1) := by decide +kernel
theorem dX1_plan_115 : decode cX1_plan 115 = .ok (.iinc 4 1, 3) := by decide +kernel
theorem dX1_plan_118 : decode cX1_plan 118 = .ok (.goto (-46), 3) := by decide +kernel
theorem dX1_plan_121 : decode cX1_plan 121 = .ok (.iconst 0, 1) := by decide +kernel
theorem dX1_plan_122 : decode cX1_plan 122 = .ok (.istore 4, 2) := by decide +kernel
theorem dX1_plan_124 : decode cX1_plan 124 = .ok (.iload 4, 2) := by decide +kernel
theorem dX1_plan_126 : decode cX1_plan 126 = .ok (.aload_n 0, 1) := by decide +kernel
theorem dX1_plan_127 : decode cX1_plan 127 = .ok (.getfield 55, 3) := by decide +kernel
theorem dX1_plan_130 : decode cX1_plan 130 = .ok (.if_icmp .ge 23, 3) := by decide +kernel
theorem dX1_plan_133 : decode cX1_plan 133 = .ok (.aload_n 0, 1) := by decide +kernel
theorem dX1_plan_134 : decode cX1_plan 134 = .ok (.getfield 28, 3) := by decide +kernel
theorem dX1_plan_137 : decode cX1_plan 137 = .ok (.iload 4, 2) := by decide +kernel
theorem dX1_plan_139 : decode cX1_plan 139 = .ok (.aload_n 0, 1) := by decide +kernel
theorem dX1_plan_140 : decode cX1_plan 140 = .ok (.getfield 44, 3) := by decide +kernel
theorem dX1_plan_143 : decode cX1_plan 143 = .ok (.iload 4, 2) := by decide +kernel
theorem dX1_plan_145 : decode cX1_plan 145 = .ok (.iaload, 1) := by decide +kernel
theorem dX1_plan_146 : decode cX1_plan 146 = .ok (.iastore, 1) := by decide +kernel
theorem dX1_plan_147 : decode cX1_plan 147 = .ok (.iinc 4 1, 3) := by decide +kernel
theorem dX1_plan_150 : decode cX1_plan 150 = .ok (.goto (-26), 3) := by decide +kernel
theorem dX1_plan_153 : decode cX1_plan 153 = .ok (.iload_n 3, 1) := by decide +kernel
theorem dX1_plan_154 : decode cX1_plan 154 = .ok (.ireturn, 1) := by decide +kernel
theorem dJ9_floorDiv_7cf53_0 : decode cJ9_floorDiv_7cf53 0 = .ok (.iload_n 0, 1) := by decide +kernel
theorem dJ9_floorDiv_7cf53_1 : decode cJ9_floorDiv_7cf53 1 = .ok (.iload_n 1, 1) := by decide +kernel
theorem dJ9_floorDiv_7cf53_2 : decode cJ9_floorDiv_7cf53 2 = .ok (.idiv, 1) := by decide +kernel
theorem dJ9_floorDiv_7cf53_3 : decode cJ9_floorDiv_7cf53 3 = .ok (.istore_n 2, 1) := by decide +kernel
theorem dJ9_floorDiv_7cf53_4 : decode cJ9_floorDiv_7cf53 4 = .ok (.iload_n 0, 1) := by decide +kernel
theorem dJ9_floorDiv_7cf53_5 : decode cJ9_floorDiv_7cf53 5 = .ok (.iload_n 1, 1) := by decide +kernel
theorem dJ9_floorDiv_7cf53_6 : decode cJ9_floorDiv_7cf53 6 = .ok (.ixor, 1) := by decide +kernel
theorem dJ9_floorDiv_7cf53_7 : decode cJ9_floorDiv_7cf53 7 = .ok (.ifCond .ge 14, 3) := by decide +kernel
theorem dJ9_floorDiv_7cf53_10 : decode cJ9_floorDiv_7cf53 10 = .ok (.iload_n 2, 1) := by decide +kernel
theorem dJ9_floorDiv_7cf53_11 : decode cJ9_floorDiv_7cf53 11 = .ok (.iload_n 1, 1) := by decide +kernel
theorem dJ9_floorDiv_7cf53_12 : decode cJ9_floorDiv_7cf53 12 = .ok (.imul, 1) := by decide +kernel
theorem dJ9_floorDiv_7cf53_13 : decode cJ9_floorDiv_7cf53 13 = .ok (.iload_n 0, 1) := by decide +kernel
theorem dJ9_floorDiv_7cf53_14 : decode cJ9_floorDiv_7cf53 14 = .ok (.if_icmp .eq 7, 3) := by decide +kernel
theorem dJ9_floorDiv_7cf53_17 : decode cJ9_floorDiv_7cf53 17 = .ok (.iload_n 2, 1) := by decide +kernel
theorem dJ9_floorDiv_7cf53_18 : decode cJ9_floorDiv_7cf53 18 = .ok (.iconst 1, 1) := by decide +kernel
theorem dJ9_floorDiv_7cf53_19 : decode cJ9_floorDiv_7cf53 19 = .ok (.isub, 1) := by decide +kernel
theorem dJ9_floorDiv_7cf53_20 : decode cJ9_floorDiv_7cf53 20 = .ok (.ireturn, 1) := by decide +kernel
theorem dJ9_floorDiv_7cf53_21 : decode cJ9_floorDiv_7cf53 21 = .ok (.iload_n 2, 1) := by decide +kernel
theorem dJ9_floorDiv_7cf53_22 : decode cJ9_floorDiv_7cf53 22 = .ok (.ireturn, 1) := by decide +kernel
theorem dJ9_max_7cf53_0 : decode cJ9_max_7cf53 0 = .ok (.iload_n 0, 1) := by decide +kernel
theorem dJ9_max_7cf53_1 : decode cJ9_max_7cf53 1 = .ok (.iload_n 1, 1) := by decide +kernel
theorem dJ9_max_7cf53_2 : decode cJ9_max_7cf53 2 = .ok (.if_icmp .lt 7, 3) := by decide +kernel
theorem dJ9_max_7cf53_5 : decode cJ9_max_7cf53 5 = .ok (.iload_n 0, 1) := by decide +kernel
theorem dJ9_max_7cf53_6 : decode cJ9_max_7cf53 6 = .ok (.goto 4, 3) := by decide +kernel
theorem dJ9_max_7cf53_9 : decode cJ9_max_7cf53 9 = .ok (.iload_n 1, 1) := by decide +kernel
theorem dJ9_max_7cf53_10 : decode cJ9_max_7cf53 10 = .ok (.ireturn, 1) := by decide +kernel
set_option maxRecDepth 20000 in
theorem ggL_addBollard_X0_addBollard : GoodIn wsL_addBollard wsX0_addBollard := goodIn_ca (goodIn_ca (goodIn_r _ [7, 8, 9, 10, 11, 12, 13, 14, 15, 6, 16, 17, 18, 19, 20, 21, 22, 23, 24, 25, 26, 27, 28, 29, 30, 31, 32, 33] (by decide +kernel) (by decide +kernel)) (goodIn_sub (fun _ h => List.mem_cons_of_mem _ (List.mem_append_left _ (List.mem_append_right _ h))) (by decide +kernel))) (goodIn_sub (fun _ h => List.mem_cons_of_mem _ (List.mem_append_right _ h)) (by decide +kernel))
set_option maxRecDepth 20000 in
theorem gL_addBollard_X0_addBollard : GoodIn wsL_addBollard (wsV RL 7 RX0 yX0_addBollard wsX0_addBollard) := goodIn_app (goodIn_of _ (by decide +kernel)) ggL_addBollard_X0_addBollard
theorem dL_addBollard_0 : decode cL_addBollard 0 = .ok (.aload_n 3, 1) := by decide +kernel
theorem dL_addBollard_1 : decode cL_addBollard 1 = .ok (.iconst 0, 1) := by decide +kernel
theorem dL_addBollard_2 : decode cL_addBollard 2 = .ok (.aload_n 0, 1) := by decide +kernel
theorem dL_addBollard_3 : decode cL_addBollard 3 = .ok (.iload_n 1, 1) := by decide +kernel
theorem dL_addBollard_4 : decode cL_addBollard 4 = .ok (.iload_n 2, 1) := by decide +kernel
theorem dL_addBollard_5 : decode cL_addBollard 5 = .ok (.invokevirtual 7, 3) := by decide +kernel
theorem dL_addBollard_8 : decode cL_addBollard 8 = .ok (.i2l, 1) := by decide +kernel
theorem dL_addBollard_9 : decode cL_addBollard 9 = .ok (.lastore, 1) := by decide +kernel
theorem dL_addBollard_10 : decode cL_addBollard 10 = .ok (.goto 11, 3) := by decide +kernel
theorem dL_addBollard_13 : decode cL_addBollard 13 = .ok (.astore 4, 2) := by decide +kernel
theorem dL_addBollard_15 : decode cL_addBollard 15 = .ok (.iconst 1, 1) := by decide +kernel
theorem dL_addBollard_16 : decode cL_addBollard 16 = .ok (.ireturn, 1) := by decide +kernel
theorem dL_addBollard_17 : decode cL_addBollard 17 = .ok (.astore 4, 2) := by decide +kernel
theorem dL_addBollard_19 : decode cL_addBollard 19 = .ok (.iconst 2, 1) := by decide +kernel
theorem dL_addBollard_20 : decode cL_addBollard 20 = .ok (.ireturn, 1) := by decide +kernel
theorem dL_addBollard_21 : decode cL_addBollard 21 = .ok (.iconst 0, 1) := by decide +kernel
theorem dL_addBollard_22 : decode cL_addBollard 22 = .ok (.ireturn, 1) := by decide +kernel
set_option maxRecDepth 20000 in
theorem ggL_addLine_X0_addLine : GoodIn wsL_addLine wsX0_addLine := goodIn_ca (goodIn_ca (goodIn_ca (goodIn_r _ [8, 9, 10, 11, 12, 13, 14, 15, 16, 17, 18, 19, 20, 21, 22, 7, 23, 24, 25, 26, 27, 28, 29, 30, 31, 32, 33, 34, 35, 36, 37, 38, 39, 40, 41, 42, 43, 44, 45, 46, 47, 48, 49] (by decide +kernel) (by decide +kernel)) (goodIn_sub (fun _ h => List.mem_cons_of_mem _ (List.mem_append_left _ (List.mem_append_left _ (List.mem_append_right _ h)))) (by decide +kernel))) (goodIn_sub (fun _ h => List.mem_cons_of_mem _ (List.mem_append_left _ (List.mem_append_right _ h))) (by decide +kernel))) (goodIn_sub (fun _ h => List.mem_cons_of_mem _ (List.mem_append_right _ h)) (by decide +kernel))
set_option maxRecDepth 20000 in
theorem gL_addLine_X0_addLine : GoodIn wsL_addLine (wsV RL 17 RX0 yX0_addLine wsX0_addLine) := goodIn_app (goodIn_of _ (by decide +kernel)) ggL_addLine_X0_addLine
theorem dL_addLine_0 : decode cL_addLine 0 = .ok (.aload 5, 2) := by decide +kernel
theorem dL_addLine_2 : decode cL_addLine 2 = .ok (.iconst 0, 1) := by decide +kernel
theorem dL_addLine_3 : decode cL_addLine 3 = .ok (.aload_n 0, 1) := by decide +kernel
theorem dL_addLine_4 : decode cL_addLine 4 = .ok (.iload_n 1, 1) := by decide +kernel
theorem dL_addLine_5 : decode cL_addLine 5 = .ok (.iload_n 2, 1) := by decide +kernel
theorem dL_addLine_6 : decode cL_addLine 6 = .ok (.iload_n 3, 1) := by decide +kernel
theorem dL_addLine_7 : decode cL_addLine 7 = .ok (.iload 4, 2) := by decide +kernel
theorem dL_addLine_9 : decode cL_addLine 9 = .ok (.invokevirtual 17, 3) := by decide +kernel
theorem dL_addLine_12 : decode cL_addLine 12 = .ok (.i2l, 1) := by decide +kernel
theorem dL_addLine_13 : decode cL_addLine 13 = .ok (.lastore, 1) := by decide +kernel
theorem dL_addLine_14 : decode cL_addLine 14 = .ok (.goto 15, 3) := by decide +kernel
theorem dL_addLine_17 : decode cL_addLine 17 = .ok (.astore 6, 2) := by decide +kernel
theorem dL_addLine_19 : decode cL_addLine 19 = .ok (.iconst 1, 1) := by decide +kernel
theorem dL_addLine_20 : decode cL_addLine 20 = .ok (.ireturn, 1) := by decide +kernel
theorem dL_addLine_21 : decode cL_addLine 21 = .ok (.astore 6, 2) := by decide +kernel
theorem dL_addLine_23 : decode cL_addLine 23 = .ok (.iconst 2, 1) := by decide +kernel
theorem dL_addLine_24 : decode cL_addLine 24 = .ok (.ireturn, 1) := by decide +kernel
theorem dL_addLine_25 : decode cL_addLine 25 = .ok (.astore 6, 2) := by decide +kernel
theorem dL_addLine_27 : decode cL_addLine 27 = .ok (.iconst 3, 1) := by decide +kernel
theorem dL_addLine_28 : decode cL_addLine 28 = .ok (.ireturn, 1) := by decide +kernel
theorem dL_addLine_29 : decode cL_addLine 29 = .ok (.iconst 0, 1) := by decide +kernel
theorem dL_addLine_30 : decode cL_addLine 30 = .ok (.ireturn, 1) := by decide +kernel
set_option maxRecDepth 20000 in
theorem ggL_toggle_X0_toggle : GoodIn wsL_toggle wsX0_toggle := goodIn_ca (goodIn_r _ [6, 7, 8, 9, 10, 5, 11, 12, 13, 14, 15, 16, 17, 18, 19, 20, 21, 22, 23, 24, 25, 26, 27, 28, 29] (by decide +kernel) (by decide +kernel)) (goodIn_sub (fun _ h => List.mem_cons_of_mem _ (List.mem_append_right _ h)) (by decide +kernel))
set_option maxRecDepth 20000 in
theorem gL_toggle_X0_toggle : GoodIn wsL_toggle (wsV RL 23 RX0 yX0_toggle wsX0_toggle) := goodIn_app (goodIn_of _ (by decide +kernel)) ggL_toggle_X0_toggle
theorem dL_toggle_0 : decode cL_toggle 0 = .ok (.aload_n 2, 1) := by decide +kernel
theorem dL_toggle_1 : decode cL_toggle 1 = .ok (.iconst 0, 1) := by decide +kernel
theorem dL_toggle_2 : decode cL_toggle 2 = .ok (.aload_n 0, 1) := by decide +kernel
theorem dL_toggle_3 : decode cL_toggle 3 = .ok (.iload_n 1, 1) := by decide +kernel
theorem dL_toggle_4 : decode cL_toggle 4 = .ok (.invokevirtual 23, 3) := by decide +kernel
theorem dL_toggle_7 : decode cL_toggle 7 = .ok (.ifCond .eq 7, 3) := by decide +kernel
theorem dL_toggle_10 : decode cL_toggle 10 = .ok (.lconst 1, 1) := by decide +kernel
theorem dL_toggle_11 : decode cL_toggle 11 = .ok (.goto 4, 3) := by decide +kernel
theorem dL_toggle_14 : decode cL_toggle 14 = .ok (.lconst 0, 1) := by decide +kernel
theorem dL_toggle_15 : decode cL_toggle 15 = .ok (.lastore, 1) := by decide +kernel
theorem dL_toggle_16 : decode cL_toggle 16 = .ok (.goto 6, 3) := by decide +kernel
theorem dL_toggle_19 : decode cL_toggle 19 = .ok (.astore_n 3, 1) := by decide +kernel
theorem dL_toggle_20 : decode cL_toggle 20 = .ok (.iconst 1, 1) := by decide +kernel
theorem dL_toggle_21 : decode cL_toggle 21 = .ok (.ireturn, 1) := by decide +kernel
theorem dL_toggle_22 : decode cL_toggle 22 = .ok (.iconst 0, 1) := by decide +kernel
theorem dL_toggle_23 : decode cL_toggle 23 = .ok (.ireturn, 1) := by decide +kernel
set_option maxRecDepth 20000 in
theorem ggL_setTide_X0_setTide : GoodIn wsL_setTide wsX0_setTide := goodIn_ca (goodIn_ca (goodIn_r _ [7, 8, 9, 10, 6, 11, 12, 13, 14, 15, 16, 17, 18, 19, 20, 21, 22, 23, 24, 25, 26, 27, 28, 29, 30, 31, 32, 33] (by decide +kernel) (by decide +kernel)) (goodIn_sub (fun _ h => List.mem_cons_of_mem _ (List.mem_append_left _ (List.mem_append_right _ h))) (by decide +kernel))) (goodIn_sub (fun _ h => List.mem_cons_of_mem _ (List.mem_append_right _ h)) (by decide +kernel))
set_option maxRecDepth 20000 in
theorem gL_setTide_X0_setTide : GoodIn wsL_setTide (wsV RL 27 RX0 yX0_setTide wsX0_setTide) := goodIn_app (goodIn_of _ (by decide +kernel)) ggL_setTide_X0_setTide
theorem dL_setTide_0 : decode cL_setTide 0 = .ok (.aload_n 3, 1) := by decide +kernel
theorem dL_setTide_1 : decode cL_setTide 1 = .ok (.iconst 0, 1) := by decide +kernel
theorem dL_setTide_2 : decode cL_setTide 2 = .ok (.aload_n 0, 1) := by decide +kernel
theorem dL_setTide_3 : decode cL_setTide 3 = .ok (.iload_n 1, 1) := by decide +kernel
theorem dL_setTide_4 : decode cL_setTide 4 = .ok (.iload_n 2, 1) := by decide +kernel
theorem dL_setTide_5 : decode cL_setTide 5 = .ok (.invokevirtual 27, 3) := by decide +kernel
theorem dL_setTide_8 : decode cL_setTide 8 = .ok (.i2l, 1) := by decide +kernel
theorem dL_setTide_9 : decode cL_setTide 9 = .ok (.lastore, 1) := by decide +kernel
theorem dL_setTide_10 : decode cL_setTide 10 = .ok (.goto 11, 3) := by decide +kernel
theorem dL_setTide_13 : decode cL_setTide 13 = .ok (.astore 4, 2) := by decide +kernel
theorem dL_setTide_15 : decode cL_setTide 15 = .ok (.iconst 1, 1) := by decide +kernel
theorem dL_setTide_16 : decode cL_setTide 16 = .ok (.ireturn, 1) := by decide +kernel
theorem dL_setTide_17 : decode cL_setTide 17 = .ok (.astore 4, 2) := by decide +kernel
theorem dL_setTide_19 : decode cL_setTide 19 = .ok (.iconst 2, 1) := by decide +kernel
theorem dL_setTide_20 : decode cL_setTide 20 = .ok (.ireturn, 1) := by decide +kernel
theorem dL_setTide_21 : decode cL_setTide 21 = .ok (.iconst 0, 1) := by decide +kernel
theorem dL_setTide_22 : decode cL_setTide 22 = .ok (.ireturn, 1) := by decide +kernel
set_option maxRecDepth 20000 in
theorem ggL_setLoad_X0_setLoad : GoodIn wsL_setLoad wsX0_setLoad := goodIn_ca (goodIn_ca (goodIn_r _ [7, 8, 9, 10, 6, 11, 12, 13, 14, 15, 16, 17, 18, 19, 20, 21, 22, 23, 24, 25, 26, 27, 28, 29, 30, 31, 32, 33] (by decide +kernel) (by decide +kernel)) (goodIn_sub (fun _ h => List.mem_cons_of_mem _ (List.mem_append_left _ (List.mem_append_right _ h))) (by decide +kernel))) (goodIn_sub (fun _ h => List.mem_cons_of_mem _ (List.mem_append_right _ h)) (by decide +kernel))
set_option maxRecDepth 20000 in
theorem gL_setLoad_X0_setLoad : GoodIn wsL_setLoad (wsV RL 30 RX0 yX0_setLoad wsX0_setLoad) := goodIn_app (goodIn_of _ (by decide +kernel)) ggL_setLoad_X0_setLoad
theorem dL_setLoad_0 : decode cL_setLoad 0 = .ok (.aload_n 3, 1) := by decide +kernel
theorem dL_setLoad_1 : decode cL_setLoad 1 = .ok (.iconst 0, 1) := by decide +kernel
theorem dL_setLoad_2 : decode cL_setLoad 2 = .ok (.aload_n 0, 1) := by decide +kernel
theorem dL_setLoad_3 : decode cL_setLoad 3 = .ok (.iload_n 1, 1) := by decide +kernel
theorem dL_setLoad_4 : decode cL_setLoad 4 = .ok (.iload_n 2, 1) := by decide +kernel
theorem dL_setLoad_5 : decode cL_setLoad 5 = .ok (.invokevirtual 30, 3) := by decide +kernel
theorem dL_setLoad_8 : decode cL_setLoad 8 = .ok (.i2l, 1) := by decide +kernel
theorem dL_setLoad_9 : decode cL_setLoad 9 = .ok (.lastore, 1) := by decide +kernel
theorem dL_setLoad_10 : decode cL_setLoad 10 = .ok (.goto 11, 3) := by decide +kernel
theorem dL_setLoad_13 : decode cL_setLoad 13 = .ok (.astore 4, 2) := by decide +kernel
theorem dL_setLoad_15 : decode cL_setLoad 15 = .ok (.iconst 1, 1) := by decide +kernel
theorem dL_setLoad_16 : decode cL_setLoad 16 = .ok (.ireturn, 1) := by decide +kernel
theorem dL_setLoad_17 : decode cL_setLoad 17 = .ok (.astore 4, 2) := by decide +kernel
theorem dL_setLoad_19 : decode cL_setLoad 19 = .ok (.iconst 2, 1) := by decide +kernel
theorem dL_setLoad_20 : decode cL_setLoad 20 = .ok (.ireturn, 1) := by decide +kernel
theorem dL_setLoad_21 : decode cL_setLoad 21 = .ok (.iconst 0, 1) := by decide +kernel
theorem dL_setLoad_22 : decode cL_setLoad 22 = .ok (.ireturn, 1) := by decide +kernel
set_option maxRecDepth 20000 in
theorem ggL_setWind_X0_setWind : GoodIn wsL_setWind wsX0_setWind := goodIn_ca (goodIn_r _ [6, 7, 8, 9, 10, 11, 5, 12, 13, 14, 15, 16, 17, 18, 19, 20, 21, 22, 23, 24, 25, 26, 27, 28, 29] (by decide +kernel) (by decide +kernel)) (goodIn_sub (fun _ h => List.mem_cons_of_mem _ (List.mem_append_right _ h)) (by decide +kernel))
set_option maxRecDepth 20000 in
theorem gL_setWind_X0_setWind : GoodIn wsL_setWind (wsV RL 33 RX0 yX0_setWind wsX0_setWind) := goodIn_app (goodIn_of _ (by decide +kernel)) ggL_setWind_X0_setWind
theorem dL_setWind_0 : decode cL_setWind 0 = .ok (.aload_n 2, 1) := by decide +kernel
theorem dL_setWind_1 : decode cL_setWind 1 = .ok (.iconst 0, 1) := by decide +kernel
theorem dL_setWind_2 : decode cL_setWind 2 = .ok (.aload_n 0, 1) := by decide +kernel
theorem dL_setWind_3 : decode cL_setWind 3 = .ok (.iload_n 1, 1) := by decide +kernel
theorem dL_setWind_4 : decode cL_setWind 4 = .ok (.invokevirtual 33, 3) := by decide +kernel
theorem dL_setWind_7 : decode cL_setWind 7 = .ok (.i2l, 1) := by decide +kernel
theorem dL_setWind_8 : decode cL_setWind 8 = .ok (.lastore, 1) := by decide +kernel
theorem dL_setWind_9 : decode cL_setWind 9 = .ok (.goto 6, 3) := by decide +kernel
theorem dL_setWind_12 : decode cL_setWind 12 = .ok (.astore_n 3, 1) := by decide +kernel
theorem dL_setWind_13 : decode cL_setWind 13 = .ok (.iconst 1, 1) := by decide +kernel
theorem dL_setWind_14 : decode cL_setWind 14 = .ok (.ireturn, 1) := by decide +kernel
theorem dL_setWind_15 : decode cL_setWind 15 = .ok (.iconst 0, 1) := by decide +kernel
theorem dL_setWind_16 : decode cL_setWind 16 = .ok (.ireturn, 1) := by decide +kernel
set_option maxRecDepth 20000 in
theorem ggL_setPassing_X0_setPassing : GoodIn wsL_setPassing wsX0_setPassing := goodIn_ca (goodIn_ca (goodIn_r _ [7, 8, 9, 10, 11, 12, 6, 13, 14, 15, 16, 17, 18, 19, 20, 21, 22, 23, 24, 25, 26, 27, 28, 29, 30, 31, 32, 33, 34, 35] (by decide +kernel) (by decide +kernel)) (goodIn_sub (fun _ h => List.mem_cons_of_mem _ (List.mem_append_left _ (List.mem_append_right _ h))) (by decide +kernel))) (goodIn_sub (fun _ h => List.mem_cons_of_mem _ (List.mem_append_right _ h)) (by decide +kernel))
set_option maxRecDepth 20000 in
theorem gL_setPassing_X0_setPassing : GoodIn wsL_setPassing (wsV RL 37 RX0 yX0_setPassing wsX0_setPassing) := goodIn_app (goodIn_of _ (by decide +kernel)) ggL_setPassing_X0_setPassing
theorem dL_setPassing_0 : decode cL_setPassing 0 = .ok (.aload_n 3, 1) := by decide +kernel
theorem dL_setPassing_1 : decode cL_setPassing 1 = .ok (.iconst 0, 1) := by decide +kernel
theorem dL_setPassing_2 : decode cL_setPassing 2 = .ok (.aload_n 0, 1) := by decide +kernel
theorem dL_setPassing_3 : decode cL_setPassing 3 = .ok (.iload_n 1, 1) := by decide +kernel
theorem dL_setPassing_4 : decode cL_setPassing 4 = .ok (.iload_n 2, 1) := by decide +kernel
theorem dL_setPassing_5 : decode cL_setPassing 5 = .ok (.invokevirtual 37, 3) := by decide +kernel
theorem dL_setPassing_8 : decode cL_setPassing 8 = .ok (.i2l, 1) := by decide +kernel
theorem dL_setPassing_9 : decode cL_setPassing 9 = .ok (.lastore, 1) := by decide +kernel
theorem dL_setPassing_10 : decode cL_setPassing 10 = .ok (.goto 11, 3) := by decide +kernel
theorem dL_setPassing_13 : decode cL_setPassing 13 = .ok (.astore 4, 2) := by decide +kernel
theorem dL_setPassing_15 : decode cL_setPassing 15 = .ok (.iconst 1, 1) := by decide +kernel
theorem dL_setPassing_16 : decode cL_setPassing 16 = .ok (.ireturn, 1) := by decide +kernel
theorem dL_setPassing_17 : decode cL_setPassing 17 = .ok (.astore 4, 2) := by decide +kernel
theorem dL_setPassing_19 : decode cL_setPassing 19 = .ok (.iconst 2, 1) := by decide +kernel
theorem dL_setPassing_20 : decode cL_setPassing 20 = .ok (.ireturn, 1) := by decide +kernel
theorem dL_setPassing_21 : decode cL_setPassing 21 = .ok (.iconst 0, 1) := by decide +kernel
theorem dL_setPassing_22 : decode cL_setPassing 22 = .ok (.ireturn, 1) := by decide +kernel
set_option maxRecDepth 20000 in
theorem ggL_force_X0_force : GoodIn wsL_force wsX0_force := goodIn_ca (goodIn_ca (goodIn_r _ [7, 8, 9, 6, 10, 11, 12, 13, 14, 15, 16, 17, 18, 19, 20, 21, 22, 23, 24, 25, 26, 27, 28, 29, 30, 31, 32, 33, 34, 35, 36, 37, 38, 39, 40, 41, 42, 43, 44, 45, 46, 47, 48, 49, 50, 51, 52, 53, 54, 55, 56, 57, 58, 59, 60, 61, 62, 63, 64] (by decide +kernel) (by decide +kernel)) (goodIn_sub (fun _ h => List.mem_cons_of_mem _ (List.mem_append_left _ (List.mem_append_right _ h))) (by decide +kernel))) (goodIn_sub (fun _ h => List.mem_cons_of_mem _ (List.mem_append_right _ h)) (by decide +kernel))
set_option maxRecDepth 20000 in
theorem gL_force_X0_force : GoodIn wsL_force (wsV RL 40 RX0 yX0_force wsX0_force) := goodIn_app (goodIn_of _ (by decide +kernel)) ggL_force_X0_force
theorem dL_force_0 : decode cL_force 0 = .ok (.aload_n 3, 1) := by decide +kernel
theorem dL_force_1 : decode cL_force 1 = .ok (.iconst 0, 1) := by decide +kernel
theorem dL_force_2 : decode cL_force 2 = .ok (.aload_n 0, 1) := by decide +kernel
theorem dL_force_3 : decode cL_force 3 = .ok (.iload_n 1, 1) := by decide +kernel
theorem dL_force_4 : decode cL_force 4 = .ok (.iload_n 2, 1) := by decide +kernel
theorem dL_force_5 : decode cL_force 5 = .ok (.invokevirtual 40, 3) := by decide +kernel
theorem dL_force_8 : decode cL_force 8 = .ok (.i2l, 1) := by decide +kernel
theorem dL_force_9 : decode cL_force 9 = .ok (.lastore, 1) := by decide +kernel
theorem dL_force_10 : decode cL_force 10 = .ok (.goto 11, 3) := by decide +kernel
theorem dL_force_13 : decode cL_force 13 = .ok (.astore 4, 2) := by decide +kernel
theorem dL_force_15 : decode cL_force 15 = .ok (.iconst 1, 1) := by decide +kernel
theorem dL_force_16 : decode cL_force 16 = .ok (.ireturn, 1) := by decide +kernel
theorem dL_force_17 : decode cL_force 17 = .ok (.astore 4, 2) := by decide +kernel
theorem dL_force_19 : decode cL_force 19 = .ok (.iconst 2, 1) := by decide +kernel
theorem dL_force_20 : decode cL_force 20 = .ok (.ireturn, 1) := by decide +kernel
theorem dL_force_21 : decode cL_force 21 = .ok (.iconst 0, 1) := by decide +kernel
theorem dL_force_22 : decode cL_force 22 = .ok (.ireturn, 1) := by decide +kernel
set_option maxRecDepth 20000 in
theorem ggL_shift_X0_shift : GoodIn wsL_shift wsX0_shift := goodIn_ca (goodIn_r _ [6, 7, 8, 5, 9, 10, 11, 12, 13, 14, 15, 16, 17, 18, 19, 20, 21, 22, 23, 24, 25, 26, 27, 28, 29, 30, 31, 32, 33, 34, 35, 36, 37, 38, 39, 40, 41, 42, 43, 44, 45, 46, 47, 48, 49, 50, 51, 52, 53, 54, 55, 56, 57, 58, 59, 60, 61, 62, 63, 64, 65, 66] (by decide +kernel) (by decide +kernel)) (goodIn_sub (fun _ h => List.mem_cons_of_mem _ (List.mem_append_right _ h)) (by decide +kernel))
set_option maxRecDepth 20000 in
theorem gL_shift_X0_shift : GoodIn wsL_shift (wsV RL 43 RX0 yX0_shift wsX0_shift) := goodIn_app (goodIn_of _ (by decide +kernel)) ggL_shift_X0_shift
theorem dL_shift_0 : decode cL_shift 0 = .ok (.aload_n 2, 1) := by decide +kernel
theorem dL_shift_1 : decode cL_shift 1 = .ok (.iconst 0, 1) := by decide +kernel
theorem dL_shift_2 : decode cL_shift 2 = .ok (.aload_n 0, 1) := by decide +kernel
theorem dL_shift_3 : decode cL_shift 3 = .ok (.iload_n 1, 1) := by decide +kernel
theorem dL_shift_4 : decode cL_shift 4 = .ok (.invokevirtual 43, 3) := by decide +kernel
theorem dL_shift_7 : decode cL_shift 7 = .ok (.i2l, 1) := by decide +kernel
theorem dL_shift_8 : decode cL_shift 8 = .ok (.lastore, 1) := by decide +kernel
theorem dL_shift_9 : decode cL_shift 9 = .ok (.goto 6, 3) := by decide +kernel
theorem dL_shift_12 : decode cL_shift 12 = .ok (.astore_n 3, 1) := by decide +kernel
theorem dL_shift_13 : decode cL_shift 13 = .ok (.iconst 1, 1) := by decide +kernel
theorem dL_shift_14 : decode cL_shift 14 = .ok (.ireturn, 1) := by decide +kernel
theorem dL_shift_15 : decode cL_shift 15 = .ok (.iconst 0, 1) := by decide +kernel
theorem dL_shift_16 : decode cL_shift 16 = .ok (.ireturn, 1) := by decide +kernel
set_option maxRecDepth 20000 in
theorem ggL_isAdrift_X0_isAdrift : GoodIn wsL_isAdrift wsX0_isAdrift := goodIn_ca (goodIn_r _ [6, 7, 8, 5, 9, 10, 11, 12, 13, 14, 15, 16, 17, 18, 19, 20, 21, 22, 23, 24, 25, 26, 27, 28, 29, 30, 31, 32, 33, 34, 35, 36, 37, 38, 39, 40, 41, 42, 43, 44, 45, 46, 47, 48, 49, 50, 51, 52, 53, 54, 55, 56, 57, 58, 59, 60, 61, 62, 63, 64, 65, 66, 67, 68, 69, 70] (by decide +kernel) (by decide +kernel)) (goodIn_sub (fun _ h => List.mem_cons_of_mem _ (List.mem_append_right _ h)) (by decide +kernel))
set_option maxRecDepth 20000 in
theorem gL_isAdrift_X0_isAdrift : GoodIn wsL_isAdrift (wsV RL 46 RX0 yX0_isAdrift wsX0_isAdrift) := goodIn_app (goodIn_of _ (by decide +kernel)) ggL_isAdrift_X0_isAdrift
theorem dL_isAdrift_0 : decode cL_isAdrift 0 = .ok (.aload_n 2, 1) := by decide +kernel
theorem dL_isAdrift_1 : decode cL_isAdrift 1 = .ok (.iconst 0, 1) := by decide +kernel
theorem dL_isAdrift_2 : decode cL_isAdrift 2 = .ok (.aload_n 0, 1) := by decide +kernel
theorem dL_isAdrift_3 : decode cL_isAdrift 3 = .ok (.iload_n 1, 1) := by decide +kernel
theorem dL_isAdrift_4 : decode cL_isAdrift 4 = .ok (.invokevirtual 46, 3) := by decide +kernel
theorem dL_isAdrift_7 : decode cL_isAdrift 7 = .ok (.ifCond .eq 7, 3) := by decide +kernel
theorem dL_isAdrift_10 : decode cL_isAdrift 10 = .ok (.lconst 1, 1) := by decide +kernel
theorem dL_isAdrift_11 : decode cL_isAdrift 11 = .ok (.goto 4, 3) := by decide +kernel
theorem dL_isAdrift_14 : decode cL_isAdrift 14 = .ok (.lconst 0, 1) := by decide +kernel
theorem dL_isAdrift_15 : decode cL_isAdrift 15 = .ok (.lastore, 1) := by decide +kernel
theorem dL_isAdrift_16 : decode cL_isAdrift 16 = .ok (.goto 6, 3) := by decide +kernel
theorem dL_isAdrift_19 : decode cL_isAdrift 19 = .ok (.astore_n 3, 1) := by decide +kernel
theorem dL_isAdrift_20 : decode cL_isAdrift 20 = .ok (.iconst 1, 1) := by decide +kernel
theorem dL_isAdrift_21 : decode cL_isAdrift 21 = .ok (.ireturn, 1) := by decide +kernel
theorem dL_isAdrift_22 : decode cL_isAdrift 22 = .ok (.iconst 0, 1) := by decide +kernel
theorem dL_isAdrift_23 : decode cL_isAdrift 23 = .ok (.ireturn, 1) := by decide +kernel
set_option maxRecDepth 20000 in
theorem ggL_length_X0_length : GoodIn wsL_length wsX0_length := goodIn_ca (goodIn_r _ [6, 7, 8, 9, 5, 10, 11, 12, 13, 14, 15, 16, 17, 18, 19, 20, 21, 22, 23, 24, 25, 26, 27, 28, 29, 30, 31, 32, 33, 34, 35, 36, 37, 38, 39, 40, 41, 42, 43, 44, 45, 46, 47, 48, 49, 50, 51, 52, 53, 54, 55, 56, 57, 58, 59, 60, 61, 62, 63, 64, 65, 66, 67, 68, 69, 70, 71, 72, 73, 74] (by decide +kernel) (by decide +kernel)) (goodIn_sub (fun _ h => List.mem_cons_of_mem _ (List.mem_append_right _ h)) (by decide +kernel))
set_option maxRecDepth 20000 in
theorem gL_length_X0_length : GoodIn wsL_length (wsV RL 49 RX0 yX0_length wsX0_length) := goodIn_app (goodIn_of _ (by decide +kernel)) ggL_length_X0_length
theorem dL_length_0 : decode cL_length 0 = .ok (.aload_n 3, 1) := by decide +kernel
theorem dL_length_1 : decode cL_length 1 = .ok (.iconst 0, 1) := by decide +kernel
theorem dL_length_2 : decode cL_length 2 = .ok (.aload_n 0, 1) := by decide +kernel
theorem dL_length_3 : decode cL_length 3 = .ok (.iload_n 1, 1) := by decide +kernel
theorem dL_length_4 : decode cL_length 4 = .ok (.iload_n 2, 1) := by decide +kernel
theorem dL_length_5 : decode cL_length 5 = .ok (.invokevirtual 49, 3) := by decide +kernel
theorem dL_length_8 : decode cL_length 8 = .ok (.i2l, 1) := by decide +kernel
theorem dL_length_9 : decode cL_length 9 = .ok (.lastore, 1) := by decide +kernel
theorem dL_length_10 : decode cL_length 10 = .ok (.goto 7, 3) := by decide +kernel
theorem dL_length_13 : decode cL_length 13 = .ok (.astore 4, 2) := by decide +kernel
theorem dL_length_15 : decode cL_length 15 = .ok (.iconst 1, 1) := by decide +kernel
theorem dL_length_16 : decode cL_length 16 = .ok (.ireturn, 1) := by decide +kernel
theorem dL_length_17 : decode cL_length 17 = .ok (.iconst 0, 1) := by decide +kernel
theorem dL_length_18 : decode cL_length 18 = .ok (.ireturn, 1) := by decide +kernel
set_option maxRecDepth 20000 in
theorem ggL_tension_X0_tension : GoodIn wsL_tension wsX0_tension := goodIn_ca (goodIn_r _ [6, 7, 8, 9, 5, 10, 11, 12, 13, 14, 15, 16, 17, 18, 19, 20, 21, 22, 23, 24, 25, 26, 27, 28, 29, 30, 31, 32, 33, 34, 35, 36, 37, 38, 39, 40, 41, 42, 43, 44, 45, 46, 47, 48, 49, 50, 51, 52, 53, 54, 55, 56, 57, 58, 59, 60, 61, 62, 63, 64, 65, 66, 67, 68, 69, 70, 71, 72, 73, 74] (by decide +kernel) (by decide +kernel)) (goodIn_sub (fun _ h => List.mem_cons_of_mem _ (List.mem_append_right _ h)) (by decide +kernel))
set_option maxRecDepth 20000 in
theorem gL_tension_X0_tension : GoodIn wsL_tension (wsV RL 52 RX0 yX0_tension wsX0_tension) := goodIn_app (goodIn_of _ (by decide +kernel)) ggL_tension_X0_tension
theorem dL_tension_0 : decode cL_tension 0 = .ok (.aload_n 3, 1) := by decide +kernel
theorem dL_tension_1 : decode cL_tension 1 = .ok (.iconst 0, 1) := by decide +kernel
theorem dL_tension_2 : decode cL_tension 2 = .ok (.aload_n 0, 1) := by decide +kernel
theorem dL_tension_3 : decode cL_tension 3 = .ok (.iload_n 1, 1) := by decide +kernel
theorem dL_tension_4 : decode cL_tension 4 = .ok (.iload_n 2, 1) := by decide +kernel
theorem dL_tension_5 : decode cL_tension 5 = .ok (.invokevirtual 52, 3) := by decide +kernel
theorem dL_tension_8 : decode cL_tension 8 = .ok (.i2l, 1) := by decide +kernel
theorem dL_tension_9 : decode cL_tension 9 = .ok (.lastore, 1) := by decide +kernel
theorem dL_tension_10 : decode cL_tension 10 = .ok (.goto 7, 3) := by decide +kernel
theorem dL_tension_13 : decode cL_tension 13 = .ok (.astore 4, 2) := by decide +kernel
theorem dL_tension_15 : decode cL_tension 15 = .ok (.iconst 1, 1) := by decide +kernel
theorem dL_tension_16 : decode cL_tension 16 = .ok (.ireturn, 1) := by decide +kernel
theorem dL_tension_17 : decode cL_tension 17 = .ok (.iconst 0, 1) := by decide +kernel
theorem dL_tension_18 : decode cL_tension 18 = .ok (.ireturn, 1) := by decide +kernel
set_option maxRecDepth 20000 in
theorem ggL_onBollard_X0_onBollard : GoodIn wsL_onBollard wsX0_onBollard := goodIn_ca (goodIn_r _ [6, 7, 8, 9, 5, 10, 11, 12, 13, 14, 15, 16, 17, 18, 19, 20, 21, 22, 23, 24, 25, 26, 27, 28, 29, 30, 31, 32, 33, 34, 35, 36, 37, 38, 39, 40, 41, 42, 43, 44, 45, 46, 47, 48, 49, 50, 51, 52, 53, 54, 55, 56, 57, 58, 59, 60, 61, 62, 63, 64, 65, 66, 67, 68, 69, 70, 71, 72, 73, 74, 75, 76, 77, 78, 79, 80] (by decide +kernel) (by decide +kernel)) (goodIn_sub (fun _ h => List.mem_cons_of_mem _ (List.mem_append_right _ h)) (by decide +kernel))
set_option maxRecDepth 20000 in
theorem gL_onBollard_X0_onBollard : GoodIn wsL_onBollard (wsV RL 55 RX0 yX0_onBollard wsX0_onBollard) := goodIn_app (goodIn_of _ (by decide +kernel)) ggL_onBollard_X0_onBollard
theorem dL_onBollard_0 : decode cL_onBollard 0 = .ok (.aload_n 3, 1) := by decide +kernel
theorem dL_onBollard_1 : decode cL_onBollard 1 = .ok (.iconst 0, 1) := by decide +kernel
theorem dL_onBollard_2 : decode cL_onBollard 2 = .ok (.aload_n 0, 1) := by decide +kernel
theorem dL_onBollard_3 : decode cL_onBollard 3 = .ok (.iload_n 1, 1) := by decide +kernel
theorem dL_onBollard_4 : decode cL_onBollard 4 = .ok (.iload_n 2, 1) := by decide +kernel
theorem dL_onBollard_5 : decode cL_onBollard 5 = .ok (.invokevirtual 55, 3) := by decide +kernel
theorem dL_onBollard_8 : decode cL_onBollard 8 = .ok (.i2l, 1) := by decide +kernel
theorem dL_onBollard_9 : decode cL_onBollard 9 = .ok (.lastore, 1) := by decide +kernel
theorem dL_onBollard_10 : decode cL_onBollard 10 = .ok (.goto 7, 3) := by decide +kernel
theorem dL_onBollard_13 : decode cL_onBollard 13 = .ok (.astore 4, 2) := by decide +kernel
theorem dL_onBollard_15 : decode cL_onBollard 15 = .ok (.iconst 1, 1) := by decide +kernel
theorem dL_onBollard_16 : decode cL_onBollard 16 = .ok (.ireturn, 1) := by decide +kernel
theorem dL_onBollard_17 : decode cL_onBollard 17 = .ok (.iconst 0, 1) := by decide +kernel
theorem dL_onBollard_18 : decode cL_onBollard 18 = .ok (.ireturn, 1) := by decide +kernel
set_option maxRecDepth 20000 in
theorem ggL_isSafe_X0_isSafe : GoodIn wsL_isSafe wsX0_isSafe := goodIn_ca (goodIn_r _ [6, 7, 8, 5, 9, 10, 11, 12, 13, 14, 15, 16, 17, 18, 19, 20, 21, 22, 23, 24, 25, 26, 27, 28, 29, 30, 31, 32, 33, 34, 35, 36, 37, 38, 39, 40, 41, 42, 43, 44, 45, 46, 47, 48, 49, 50, 51, 52, 53, 54, 55, 56, 57, 58, 59, 60, 61, 62, 63, 64, 65, 66, 67, 68, 69, 70, 71, 72, 73, 74, 75, 76, 77, 78, 79, 80, 81, 82, 83, 84, 85, 86, 87, 88, 89, 90, 91, 92, 93, 94] (by decide +kernel) (by decide +kernel)) (goodIn_sub (fun _ h => List.mem_cons_of_mem _ (List.mem_append_right _ h)) (by decide +kernel))
set_option maxRecDepth 20000 in
theorem gL_isSafe_X0_isSafe : GoodIn wsL_isSafe (wsV RL 58 RX0 yX0_isSafe wsX0_isSafe) := goodIn_app (goodIn_of _ (by decide +kernel)) ggL_isSafe_X0_isSafe
theorem dL_isSafe_0 : decode cL_isSafe 0 = .ok (.aload_n 2, 1) := by decide +kernel
theorem dL_isSafe_1 : decode cL_isSafe 1 = .ok (.iconst 0, 1) := by decide +kernel
theorem dL_isSafe_2 : decode cL_isSafe 2 = .ok (.aload_n 0, 1) := by decide +kernel
theorem dL_isSafe_3 : decode cL_isSafe 3 = .ok (.iload_n 1, 1) := by decide +kernel
theorem dL_isSafe_4 : decode cL_isSafe 4 = .ok (.invokevirtual 58, 3) := by decide +kernel
theorem dL_isSafe_7 : decode cL_isSafe 7 = .ok (.ifCond .eq 7, 3) := by decide +kernel
theorem dL_isSafe_10 : decode cL_isSafe 10 = .ok (.lconst 1, 1) := by decide +kernel
theorem dL_isSafe_11 : decode cL_isSafe 11 = .ok (.goto 4, 3) := by decide +kernel
theorem dL_isSafe_14 : decode cL_isSafe 14 = .ok (.lconst 0, 1) := by decide +kernel
theorem dL_isSafe_15 : decode cL_isSafe 15 = .ok (.lastore, 1) := by decide +kernel
theorem dL_isSafe_16 : decode cL_isSafe 16 = .ok (.goto 6, 3) := by decide +kernel
theorem dL_isSafe_19 : decode cL_isSafe 19 = .ok (.astore_n 3, 1) := by decide +kernel
theorem dL_isSafe_20 : decode cL_isSafe 20 = .ok (.iconst 1, 1) := by decide +kernel
theorem dL_isSafe_21 : decode cL_isSafe 21 = .ok (.ireturn, 1) := by decide +kernel
theorem dL_isSafe_22 : decode cL_isSafe 22 = .ok (.iconst 0, 1) := by decide +kernel
theorem dL_isSafe_23 : decode cL_isSafe 23 = .ok (.ireturn, 1) := by decide +kernel
set_option maxRecDepth 20000 in
theorem ggL_firstUnsafe_X0_firstUnsafe : GoodIn wsL_firstUnsafe wsX0_firstUnsafe := goodIn_ca (goodIn_r _ [6, 7, 8, 5, 9, 10, 11, 12, 13, 14, 15, 16, 17, 18, 19, 20, 21, 22, 23, 24, 25, 26, 27, 28, 29, 30, 31, 32, 33, 34, 35, 36, 37, 38, 39, 40, 41, 42, 43, 44, 45, 46, 47, 48, 49, 50, 51, 52, 53, 54, 55, 56, 57, 58, 59, 60, 61, 62, 63, 64, 65, 66, 67, 68, 69, 70, 71, 72, 73, 74, 75, 76, 77, 78, 79, 80, 81, 82, 83, 84, 85, 86, 87, 88, 89, 90, 91, 92, 93, 94] (by decide +kernel) (by decide +kernel)) (goodIn_sub (fun _ h => List.mem_cons_of_mem _ (List.mem_append_right _ h)) (by decide +kernel))
set_option maxRecDepth 20000 in
theorem gL_firstUnsafe_X0_firstUnsafe : GoodIn wsL_firstUnsafe (wsV RL 61 RX0 yX0_firstUnsafe wsX0_firstUnsafe) := goodIn_app (goodIn_of _ (by decide +kernel)) ggL_firstUnsafe_X0_firstUnsafe
theorem dL_firstUnsafe_0 : decode cL_firstUnsafe 0 = .ok (.aload_n 2, 1) := by decide +kernel
theorem dL_firstUnsafe_1 : decode cL_firstUnsafe 1 = .ok (.iconst 0, 1) := by decide +kernel
theorem dL_firstUnsafe_2 : decode cL_firstUnsafe 2 = .ok (.aload_n 0, 1) := by decide +kernel
theorem dL_firstUnsafe_3 : decode cL_firstUnsafe 3 = .ok (.iload_n 1, 1) := by decide +kernel
theorem dL_firstUnsafe_4 : decode cL_firstUnsafe 4 = .ok (.invokevirtual 61, 3) := by decide +kernel
theorem dL_firstUnsafe_7 : decode cL_firstUnsafe 7 = .ok (.i2l, 1) := by decide +kernel
theorem dL_firstUnsafe_8 : decode cL_firstUnsafe 8 = .ok (.lastore, 1) := by decide +kernel
theorem dL_firstUnsafe_9 : decode cL_firstUnsafe 9 = .ok (.goto 6, 3) := by decide +kernel
theorem dL_firstUnsafe_12 : decode cL_firstUnsafe 12 = .ok (.astore_n 3, 1) := by decide +kernel
theorem dL_firstUnsafe_13 : decode cL_firstUnsafe 13 = .ok (.iconst 1, 1) := by decide +kernel
theorem dL_firstUnsafe_14 : decode cL_firstUnsafe 14 = .ok (.ireturn, 1) := by decide +kernel
theorem dL_firstUnsafe_15 : decode cL_firstUnsafe 15 = .ok (.iconst 0, 1) := by decide +kernel
theorem dL_firstUnsafe_16 : decode cL_firstUnsafe 16 = .ok (.ireturn, 1) := by decide +kernel
set_option maxRecDepth 20000 in
theorem ggL_tend_X0_tend : GoodIn wsL_tend wsX0_tend := goodIn_ca (goodIn_ca (goodIn_ca (goodIn_r _ [8, 9, 10, 11, 12, 13, 14, 15, 16, 17, 18, 19, 7, 20, 21, 22, 23, 24, 25, 26, 27, 28, 29, 30, 31, 32, 33, 34, 35, 36, 37, 38, 39, 40, 41, 42, 43, 44, 45, 46, 47, 48, 49, 50, 51, 52, 53, 54, 55, 56, 57, 58, 59, 60, 61, 62, 63, 64, 65, 66, 67, 68, 69, 70, 71, 72, 73, 74, 75, 76, 77, 78, 79, 80, 81, 82, 83] (by decide +kernel) (by decide +kernel)) (goodIn_sub (fun _ h => List.mem_cons_of_mem _ (List.mem_append_left _ (List.mem_append_left _ (List.mem_append_right _ h)))) (by decide +kernel))) (goodIn_sub (fun _ h => List.mem_cons_of_mem _ (List.mem_append_left _ (List.mem_append_right _ h))) (by decide +kernel))) (goodIn_sub (fun _ h => List.mem_cons_of_mem _ (List.mem_append_right _ h)) (by decide +kernel))
set_option maxRecDepth 20000 in
theorem gL_tend_X0_tend : GoodIn wsL_tend (wsV RL 64 RX0 yX0_tend wsX0_tend) := goodIn_app (goodIn_of _ (by decide +kernel)) ggL_tend_X0_tend
theorem dL_tend_0 : decode cL_tend 0 = .ok (.aload 4, 2) := by decide +kernel
theorem dL_tend_2 : decode cL_tend 2 = .ok (.iconst 0, 1) := by decide +kernel
theorem dL_tend_3 : decode cL_tend 3 = .ok (.aload_n 0, 1) := by decide +kernel
theorem dL_tend_4 : decode cL_tend 4 = .ok (.iload_n 1, 1) := by decide +kernel
theorem dL_tend_5 : decode cL_tend 5 = .ok (.iload_n 2, 1) := by decide +kernel
theorem dL_tend_6 : decode cL_tend 6 = .ok (.iload_n 3, 1) := by decide +kernel
theorem dL_tend_7 : decode cL_tend 7 = .ok (.invokevirtual 64, 3) := by decide +kernel
theorem dL_tend_10 : decode cL_tend 10 = .ok (.i2l, 1) := by decide +kernel
theorem dL_tend_11 : decode cL_tend 11 = .ok (.lastore, 1) := by decide +kernel
theorem dL_tend_12 : decode cL_tend 12 = .ok (.goto 15, 3) := by decide +kernel
theorem dL_tend_15 : decode cL_tend 15 = .ok (.astore 5, 2) := by decide +kernel
theorem dL_tend_17 : decode cL_tend 17 = .ok (.iconst 1, 1) := by decide +kernel
theorem dL_tend_18 : decode cL_tend 18 = .ok (.ireturn, 1) := by decide +kernel
theorem dL_tend_19 : decode cL_tend 19 = .ok (.astore 5, 2) := by decide +kernel
theorem dL_tend_21 : decode cL_tend 21 = .ok (.iconst 2, 1) := by decide +kernel
theorem dL_tend_22 : decode cL_tend 22 = .ok (.ireturn, 1) := by decide +kernel
theorem dL_tend_23 : decode cL_tend 23 = .ok (.astore 5, 2) := by decide +kernel
theorem dL_tend_25 : decode cL_tend 25 = .ok (.iconst 3, 1) := by decide +kernel
theorem dL_tend_26 : decode cL_tend 26 = .ok (.ireturn, 1) := by decide +kernel
theorem dL_tend_27 : decode cL_tend 27 = .ok (.iconst 0, 1) := by decide +kernel
theorem dL_tend_28 : decode cL_tend 28 = .ok (.ireturn, 1) := by decide +kernel
set_option maxRecDepth 20000 in
theorem ggL_tendAll_X0_tendAll : GoodIn wsL_tendAll wsX0_tendAll := goodIn_ca (goodIn_r _ [6, 7, 8, 5, 9, 10, 11, 12, 13, 14, 15, 16, 17, 18, 19, 20, 21, 22, 23, 24, 25, 26, 27, 28, 29, 30, 31, 32, 33, 34, 35, 36, 37, 38, 39, 40, 41, 42, 43, 44, 45, 46, 47, 48, 49, 50, 51, 52, 53, 54, 55, 56, 57, 58, 59, 60, 61, 62, 63, 64, 65, 66, 67, 68, 69, 70, 71, 72, 73, 74] (by decide +kernel) (by decide +kernel)) (goodIn_sub (fun _ h => List.mem_cons_of_mem _ (List.mem_append_right _ h)) (by decide +kernel))
set_option maxRecDepth 20000 in
theorem gL_tendAll_X0_tendAll : GoodIn wsL_tendAll (wsV RL 68 RX0 yX0_tendAll wsX0_tendAll) := goodIn_app (goodIn_of _ (by decide +kernel)) ggL_tendAll_X0_tendAll
theorem dL_tendAll_0 : decode cL_tendAll 0 = .ok (.aload_n 2, 1) := by decide +kernel
theorem dL_tendAll_1 : decode cL_tendAll 1 = .ok (.iconst 0, 1) := by decide +kernel
theorem dL_tendAll_2 : decode cL_tendAll 2 = .ok (.aload_n 0, 1) := by decide +kernel
theorem dL_tendAll_3 : decode cL_tendAll 3 = .ok (.iload_n 1, 1) := by decide +kernel
theorem dL_tendAll_4 : decode cL_tendAll 4 = .ok (.invokevirtual 68, 3) := by decide +kernel
theorem dL_tendAll_7 : decode cL_tendAll 7 = .ok (.i2l, 1) := by decide +kernel
theorem dL_tendAll_8 : decode cL_tendAll 8 = .ok (.lastore, 1) := by decide +kernel
theorem dL_tendAll_9 : decode cL_tendAll 9 = .ok (.goto 6, 3) := by decide +kernel
theorem dL_tendAll_12 : decode cL_tendAll 12 = .ok (.astore_n 3, 1) := by decide +kernel
theorem dL_tendAll_13 : decode cL_tendAll 13 = .ok (.iconst 1, 1) := by decide +kernel
theorem dL_tendAll_14 : decode cL_tendAll 14 = .ok (.ireturn, 1) := by decide +kernel
theorem dL_tendAll_15 : decode cL_tendAll 15 = .ok (.iconst 0, 1) := by decide +kernel
theorem dL_tendAll_16 : decode cL_tendAll 16 = .ok (.ireturn, 1) := by decide +kernel
set_option maxRecDepth 20000 in
theorem ggL_plan_X0_plan : GoodIn wsL_plan wsX0_plan := goodIn_ca (goodIn_ca (goodIn_r _ [7, 8, 9, 10, 11, 12, 13, 14, 15, 16, 17, 6, 18, 19, 20, 21, 22, 23, 24, 25, 26, 27, 28, 29, 30, 31, 32, 33, 34, 35, 36, 37, 38, 39, 40, 41, 42, 43, 44, 45, 46, 47, 48, 49, 50, 51, 52, 53, 54, 55, 56, 57, 58, 59, 60, 61, 62, 63, 64, 65, 66, 67, 68, 69, 70, 71, 72, 73, 74, 75, 76, 77, 78, 79, 80, 81, 82, 83, 84, 85, 86, 87, 88, 89, 90, 91, 92, 93, 94, 95, 96, 97, 98, 99, 100, 101, 102, 103, 104, 105, 106, 107, 108, 109, 110] (by decide +kernel) (by decide +kernel)) (goodIn_sub (fun _ h => List.mem_cons_of_mem _ (List.mem_append_left _ (List.mem_append_right _ h))) (by decide +kernel))) (goodIn_sub (fun _ h => List.mem_cons_of_mem _ (List.mem_append_right _ h)) (by decide +kernel))
set_option maxRecDepth 20000 in
theorem gL_plan_X0_plan : GoodIn wsL_plan (wsV RL 71 RX0 yX0_plan wsX0_plan) := goodIn_app (goodIn_of _ (by decide +kernel)) ggL_plan_X0_plan
theorem dL_plan_0 : decode cL_plan 0 = .ok (.aload_n 3, 1) := by decide +kernel
theorem dL_plan_1 : decode cL_plan 1 = .ok (.iconst 0, 1) := by decide +kernel
theorem dL_plan_2 : decode cL_plan 2 = .ok (.aload_n 0, 1) := by decide +kernel
theorem dL_plan_3 : decode cL_plan 3 = .ok (.iload_n 1, 1) := by decide +kernel
theorem dL_plan_4 : decode cL_plan 4 = .ok (.iload_n 2, 1) := by decide +kernel
theorem dL_plan_5 : decode cL_plan 5 = .ok (.invokevirtual 71, 3) := by decide +kernel
theorem dL_plan_8 : decode cL_plan 8 = .ok (.i2l, 1) := by decide +kernel
theorem dL_plan_9 : decode cL_plan 9 = .ok (.lastore, 1) := by decide +kernel
theorem dL_plan_10 : decode cL_plan 10 = .ok (.goto 11, 3) := by decide +kernel
theorem dL_plan_13 : decode cL_plan 13 = .ok (.astore 4, 2) := by decide +kernel
theorem dL_plan_15 : decode cL_plan 15 = .ok (.iconst 1, 1) := by decide +kernel
theorem dL_plan_16 : decode cL_plan 16 = .ok (.ireturn, 1) := by decide +kernel
theorem dL_plan_17 : decode cL_plan 17 = .ok (.astore 4, 2) := by decide +kernel
