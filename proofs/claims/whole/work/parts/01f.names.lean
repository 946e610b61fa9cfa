theorem dX0_holdsIn_0 : decode cX0_holdsIn 0 = .ok (.aload_n 0, 1) := by decide +kernel
theorem dX0_holdsIn_1 : decode cX0_holdsIn 1 = .ok (.iload_n 1, 1) := by decide +kernel
theorem dX0_holdsIn_2 : decode cX0_holdsIn 2 = .ok (.invokevirtual 89, 3) := by decide +kernel
theorem dX0_holdsIn_5 : decode cX0_holdsIn 5 = .ok (.istore_n 2, 1) := by decide +kernel
theorem dX0_holdsIn_6 : decode cX0_holdsIn 6 = .ok (.aload_n 0, 1) := by decide +kernel
theorem dX0_holdsIn_7 : decode cX0_holdsIn 7 = .ok (.iload_n 1, 1) := by decide +kernel
theorem dX0_holdsIn_8 : decode cX0_holdsIn 8 = .ok (.iload_n 2, 1) := by decide +kernel
theorem dX0_holdsIn_9 : decode cX0_holdsIn 9 = .ok (.invokevirtual 93, 3) := by decide +kernel
theorem dX0_holdsIn_12 : decode cX0_holdsIn 12 = .ok (.ifCond .ne 25, 3) := by decide +kernel
theorem dX0_holdsIn_15 : decode cX0_holdsIn 15 = .ok (.aload_n 0, 1) := by decide +kernel
theorem dX0_holdsIn_16 : decode cX0_holdsIn 16 = .ok (.iload_n 1, 1) := by decide +kernel
theorem dX0_holdsIn_17 : decode cX0_holdsIn 17 = .ok (.iload_n 2, 1) := by decide +kernel
theorem dX0_holdsIn_18 : decode cX0_holdsIn 18 = .ok (.invokevirtual 155, 3) := by decide +kernel
theorem dX0_holdsIn_21 : decode cX0_holdsIn 21 = .ok (.ifCond .eq 16, 3) := by decide +kernel
theorem dX0_holdsIn_24 : decode cX0_holdsIn 24 = .ok (.aload_n 0, 1) := by decide +kernel
theorem dX0_holdsIn_25 : decode cX0_holdsIn 25 = .ok (.iload_n 1, 1) := by decide +kernel
theorem dX0_holdsIn_26 : decode cX0_holdsIn 26 = .ok (.iload_n 2, 1) := by decide +kernel
theorem dX0_holdsIn_27 : decode cX0_holdsIn 27 = .ok (.invokevirtual 158, 3) := by decide +kernel
theorem dX0_holdsIn_30 : decode cX0_holdsIn 30 = .ok (.ifCond .eq 7, 3) := by decide +kernel
theorem dX0_holdsIn_33 : decode cX0_holdsIn 33 = .ok (.iconst 1, 1) := by decide +kernel
theorem dX0_holdsIn_34 : decode cX0_holdsIn 34 = .ok (.goto 4, 3) := by decide +kernel
theorem dX0_holdsIn_37 : decode cX0_holdsIn 37 = .ok (.iconst 0, 1) := by decide +kernel
theorem dX0_holdsIn_38 : decode cX0_holdsIn 38 = .ok (.ireturn, 1) := by decide +kernel
set_option maxRecDepth 20000 in
theorem ggX0_linesHold_X0_lengthWith : GoodIn wsX0_linesHold wsX0_lengthWith := goodIn_r _ [7, 8, 9, 10, 11, 6, 12, 13, 14, 15, 16, 17, 29, 30, 31, 32, 33, 34, 35, 36, 37, 38, 39, 40, 41, 42, 43] (by decide +kernel) (by decide +kernel)
set_option maxRecDepth 20000 in
theorem gX0_linesHold_X0_lengthWith : GoodIn wsX0_linesHold (wsV RX0 97 RX0 yX0_lengthWith wsX0_lengthWith) := goodIn_app (goodIn_of _ (by decide +kernel)) ggX0_linesHold_X0_lengthWith
set_option maxRecDepth 20000 in
theorem ggX0_linesHold_X0_tensionAtLength : GoodIn wsX0_linesHold wsX0_tensionAtLength := goodIn_r _ [21, 22, 23, 24, 25, 26, 27, 28, 29, 30, 31, 32, 33, 34, 35, 36, 37, 38, 39, 40, 41, 42, 43] (by decide +kernel) (by decide +kernel)
set_option maxRecDepth 20000 in
theorem gX0_linesHold_X0_tensionAtLength : GoodIn wsX0_linesHold (wsV RX0 101 RX0 yX0_tensionAtLength wsX0_tensionAtLength) := goodIn_app (goodIn_of _ (by decide +kernel)) ggX0_linesHold_X0_tensionAtLength
theorem dX0_linesHold_0 : decode cX0_linesHold 0 = .ok (.iconst 0, 1) := by decide +kernel
theorem dX0_linesHold_1 : decode cX0_linesHold 1 = .ok (.istore_n 3, 1) := by decide +kernel
theorem dX0_linesHold_2 : decode cX0_linesHold 2 = .ok (.iload_n 3, 1) := by decide +kernel
theorem dX0_linesHold_3 : decode cX0_linesHold 3 = .ok (.aload_n 0, 1) := by decide +kernel
theorem dX0_linesHold_4 : decode cX0_linesHold 4 = .ok (.getfield 32, 3) := by decide +kernel
theorem dX0_linesHold_7 : decode cX0_linesHold 7 = .ok (.if_icmp .ge 42, 3) := by decide +kernel
theorem dX0_linesHold_10 : decode cX0_linesHold 10 = .ok (.aload_n 0, 1) := by decide +kernel
theorem dX0_linesHold_11 : decode cX0_linesHold 11 = .ok (.iload_n 3, 1) := by decide +kernel
theorem dX0_linesHold_12 : decode cX0_linesHold 12 = .ok (.aload_n 0, 1) := by decide +kernel
theorem dX0_linesHold_13 : decode cX0_linesHold 13 = .ok (.iload_n 3, 1) := by decide +kernel
theorem dX0_linesHold_14 : decode cX0_linesHold 14 = .ok (.iload_n 1, 1) := by decide +kernel
theorem dX0_linesHold_15 : decode cX0_linesHold 15 = .ok (.iload_n 2, 1) := by decide +kernel
theorem dX0_linesHold_16 : decode cX0_linesHold 16 = .ok (.invokevirtual 97, 3) := by decide +kernel
theorem dX0_linesHold_19 : decode cX0_linesHold 19 = .ok (.invokevirtual 101, 3) := by decide +kernel
theorem dX0_linesHold_22 : decode cX0_linesHold 22 = .ok (.istore 4, 2) := by decide +kernel
theorem dX0_linesHold_24 : decode cX0_linesHold 24 = .ok (.iload 4, 2) := by decide +kernel
theorem dX0_linesHold_26 : decode cX0_linesHold 26 = .ok (.bipush 100, 2) := by decide +kernel
theorem dX0_linesHold_28 : decode cX0_linesHold 28 = .ok (.imul, 1) := by decide +kernel
theorem dX0_linesHold_29 : decode cX0_linesHold 29 = .ok (.aload_n 0, 1) := by decide +kernel
theorem dX0_linesHold_30 : decode cX0_linesHold 30 = .ok (.getfield 44, 3) := by decide +kernel
theorem dX0_linesHold_33 : decode cX0_linesHold 33 = .ok (.iload_n 3, 1) := by decide +kernel
theorem dX0_linesHold_34 : decode cX0_linesHold 34 = .ok (.iaload, 1) := by decide +kernel
theorem dX0_linesHold_35 : decode cX0_linesHold 35 = .ok (.bipush 55, 2) := by decide +kernel
theorem dX0_linesHold_37 : decode cX0_linesHold 37 = .ok (.imul, 1) := by decide +kernel
theorem dX0_linesHold_38 : decode cX0_linesHold 38 = .ok (.if_icmp .le 5, 3) := by decide +kernel
theorem dX0_linesHold_41 : decode cX0_linesHold 41 = .ok (.iconst 0, 1) := by decide +kernel
theorem dX0_linesHold_42 : decode cX0_linesHold 42 = .ok (.ireturn, 1) := by decide +kernel
theorem dX0_linesHold_43 : decode cX0_linesHold 43 = .ok (.iinc 3 1, 3) := by decide +kernel
theorem dX0_linesHold_46 : decode cX0_linesHold 46 = .ok (.goto (-44), 3) := by decide +kernel
theorem dX0_linesHold_49 : decode cX0_linesHold 49 = .ok (.iconst 1, 1) := by decide +kernel
theorem dX0_linesHold_50 : decode cX0_linesHold 50 = .ok (.ireturn, 1) := by decide +kernel
set_option maxRecDepth 20000 in
theorem ggX0_bollardsHold_X0_bollardTension : GoodIn wsX0_bollardsHold wsX0_bollardTension := goodIn_r _ [7, 8, 9, 10, 11, 12, 6, 13, 14, 15, 16, 17, 18, 19, 20, 21, 22, 23, 24, 25, 26, 27, 28, 29, 30, 31, 32, 33, 34, 35, 36, 37, 38, 39, 40, 41, 42, 43, 44, 45, 46, 47, 48, 49] (by decide +kernel) (by decide +kernel)
set_option maxRecDepth 20000 in
theorem gX0_bollardsHold_X0_bollardTension : GoodIn wsX0_bollardsHold (wsV RX0 104 RX0 yX0_bollardTension wsX0_bollardTension) := goodIn_app (goodIn_of _ (by decide +kernel)) ggX0_bollardsHold_X0_bollardTension
theorem dX0_bollardsHold_0 : decode cX0_bollardsHold 0 = .ok (.iconst 0, 1) := by decide +kernel
theorem dX0_bollardsHold_1 : decode cX0_bollardsHold 1 = .ok (.istore_n 3, 1) := by decide +kernel
theorem dX0_bollardsHold_2 : decode cX0_bollardsHold 2 = .ok (.iload_n 3, 1) := by decide +kernel
theorem dX0_bollardsHold_3 : decode cX0_bollardsHold 3 = .ok (.aload_n 0, 1) := by decide +kernel
theorem dX0_bollardsHold_4 : decode cX0_bollardsHold 4 = .ok (.getfield 23, 3) := by decide +kernel
theorem dX0_bollardsHold_7 : decode cX0_bollardsHold 7 = .ok (.if_icmp .ge 27, 3) := by decide +kernel
theorem dX0_bollardsHold_10 : decode cX0_bollardsHold 10 = .ok (.aload_n 0, 1) := by decide +kernel
theorem dX0_bollardsHold_11 : decode cX0_bollardsHold 11 = .ok (.iload_n 3, 1) := by decide +kernel
theorem dX0_bollardsHold_12 : decode cX0_bollardsHold 12 = .ok (.iload_n 1, 1) := by decide +kernel
theorem dX0_bollardsHold_13 : decode cX0_bollardsHold 13 = .ok (.iload_n 2, 1) := by decide +kernel
theorem dX0_bollardsHold_14 : decode cX0_bollardsHold 14 = .ok (.invokevirtual 104, 3) := by decide +kernel
theorem dX0_bollardsHold_17 : decode cX0_bollardsHold 17 = .ok (.aload_n 0, 1) := by decide +kernel
theorem dX0_bollardsHold_18 : decode cX0_bollardsHold 18 = .ok (.getfield 29, 3) := by decide +kernel
theorem dX0_bollardsHold_21 : decode cX0_bollardsHold 21 = .ok (.iload_n 3, 1) := by decide +kernel
theorem dX0_bollardsHold_22 : decode cX0_bollardsHold 22 = .ok (.iaload, 1) := by decide +kernel
theorem dX0_bollardsHold_23 : decode cX0_bollardsHold 23 = .ok (.if_icmp .le 5, 3) := by decide +kernel
theorem dX0_bollardsHold_26 : decode cX0_bollardsHold 26 = .ok (.iconst 0, 1) := by decide +kernel
theorem dX0_bollardsHold_27 : decode cX0_bollardsHold 27 = .ok (.ireturn, 1) := by decide +kernel
theorem dX0_bollardsHold_28 : decode cX0_bollardsHold 28 = .ok (.iinc 3 1, 3) := by decide +kernel
theorem dX0_bollardsHold_31 : decode cX0_bollardsHold 31 = .ok (.goto (-29), 3) := by decide +kernel
theorem dX0_bollardsHold_34 : decode cX0_bollardsHold 34 = .ok (.iconst 1, 1) := by decide +kernel
theorem dX0_bollardsHold_35 : decode cX0_bollardsHold 35 = .ok (.ireturn, 1) := by decide +kernel
set_option maxRecDepth 20000 in
theorem ggX0_tendFastLines_X0_balanceOf : GoodIn wsX0_tendFastLines wsX0_balanceOf := goodIn_r _ [8, 9, 10, 11, 12, 13, 14, 15, 7, 16, 17, 18, 1, 19, 20, 21, 22, 23, 24, 25, 26, 27, 28, 29, 30, 31, 32, 33, 34, 35, 36, 2, 37, 3, 38, 39, 40, 41, 46, 47, 48, 49, 50, 51, 52, 53, 54, 55, 56, 57, 58, 59, 60] (by decide +kernel) (by decide +kernel)
set_option maxRecDepth 20000 in
theorem gX0_tendFastLines_X0_balanceOf : GoodIn wsX0_tendFastLines (wsV RX0 89 RX0 yX0_balanceOf wsX0_balanceOf) := goodIn_app (goodIn_of _ (by decide +kernel)) ggX0_tendFastLines_X0_balanceOf
set_option maxRecDepth 20000 in
theorem ggX0_tendFastLines_X0_lengthWith : GoodIn wsX0_tendFastLines wsX0_lengthWith := goodIn_r _ [45, 23, 24, 25, 26, 7, 27, 28, 29, 30, 31, 32, 46, 47, 48, 49, 50, 51, 52, 53, 54, 55, 56, 57, 58, 59, 60] (by decide +kernel) (by decide +kernel)
set_option maxRecDepth 20000 in
theorem gX0_tendFastLines_X0_lengthWith : GoodIn wsX0_tendFastLines (wsV RX0 97 RX0 yX0_lengthWith wsX0_lengthWith) := goodIn_app (goodIn_of _ (by decide +kernel)) ggX0_tendFastLines_X0_lengthWith
theorem dX0_tendFastLines_0 : decode cX0_tendFastLines 0 = .ok (.aload_n 0, 1) := by decide +kernel
theorem dX0_tendFastLines_1 : decode cX0_tendFastLines 1 = .ok (.iload_n 1, 1) := by decide +kernel
theorem dX0_tendFastLines_2 : decode cX0_tendFastLines 2 = .ok (.invokevirtual 89, 3) := by decide +kernel
theorem dX0_tendFastLines_5 : decode cX0_tendFastLines 5 = .ok (.istore_n 2, 1) := by decide +kernel
theorem dX0_tendFastLines_6 : decode cX0_tendFastLines 6 = .ok (.iconst 0, 1) := by decide +kernel
theorem dX0_tendFastLines_7 : decode cX0_tendFastLines 7 = .ok (.istore_n 3, 1) := by decide +kernel
theorem dX0_tendFastLines_8 : decode cX0_tendFastLines 8 = .ok (.iconst 0, 1) := by decide +kernel
theorem dX0_tendFastLines_9 : decode cX0_tendFastLines 9 = .ok (.istore 4, 2) := by decide +kernel
theorem dX0_tendFastLines_11 : decode cX0_tendFastLines 11 = .ok (.iload 4, 2) := by decide +kernel
theorem dX0_tendFastLines_13 : decode cX0_tendFastLines 13 = .ok (.aload_n 0, 1) := by decide +kernel
theorem dX0_tendFastLines_14 : decode cX0_tendFastLines 14 = .ok (.getfield 32, 3) := by decide +kernel
theorem dX0_tendFastLines_17 : decode cX0_tendFastLines 17 = .ok (.if_icmp .ge 63, 3) := by decide +kernel
theorem dX0_tendFastLines_20 : decode cX0_tendFastLines 20 = .ok (.aload_n 0, 1) := by decide +kernel
theorem dX0_tendFastLines_21 : decode cX0_tendFastLines 21 = .ok (.getfield 50, 3) := by decide +kernel
theorem dX0_tendFastLines_24 : decode cX0_tendFastLines 24 = .ok (.iload 4, 2) := by decide +kernel
theorem dX0_tendFastLines_26 : decode cX0_tendFastLines 26 = .ok (.baload, 1) := by decide +kernel
theorem dX0_tendFastLines_27 : decode cX0_tendFastLines 27 = .ok (.ifCond .eq 47, 3) := by decide +kernel
theorem dX0_tendFastLines_30 : decode cX0_tendFastLines 30 = .ok (.aload_n 0, 1) := by decide +kernel
theorem dX0_tendFastLines_31 : decode cX0_tendFastLines 31 = .ok (.getfield 47, 3) := by decide +kernel
theorem dX0_tendFastLines_34 : decode cX0_tendFastLines 34 = .ok (.iload 4, 2) := by decide +kernel
theorem dX0_tendFastLines_36 : decode cX0_tendFastLines 36 = .ok (.iaload, 1) := by decide +kernel
theorem dX0_tendFastLines_37 : decode cX0_tendFastLines 37 = .ok (.istore 5, 2) := by decide +kernel
theorem dX0_tendFastLines_39 : decode cX0_tendFastLines 39 = .ok (.aload_n 0, 1) := by decide +kernel
theorem dX0_tendFastLines_40 : decode cX0_tendFastLines 40 = .ok (.getfield 47, 3) := by decide +kernel
theorem dX0_tendFastLines_43 : decode cX0_tendFastLines 43 = .ok (.iload 4, 2) := by decide +kernel
theorem dX0_tendFastLines_45 : decode cX0_tendFastLines 45 = .ok (.aload_n 0, 1) := by decide +kernel
theorem dX0_tendFastLines_46 : decode cX0_tendFastLines 46 = .ok (.iload 4, 2) := by decide +kernel
theorem dX0_tendFastLines_48 : decode cX0_tendFastLines 48 = .ok (.iload_n 1, 1) := by decide +kernel
theorem dX0_tendFastLines_49 : decode cX0_tendFastLines 49 = .ok (.iload_n 2, 1) := by decide +kernel
theorem dX0_tendFastLines_50 : decode cX0_tendFastLines 50 = .ok (.invokevirtual 97, 3) := by decide +kernel
theorem dX0_tendFastLines_53 : decode cX0_tendFastLines 53 = .ok (.iastore, 1) := by decide +kernel
theorem dX0_tendFastLines_54 : decode cX0_tendFastLines 54 = .ok (.iload_n 3, 1) := by decide +kernel
theorem dX0_tendFastLines_55 : decode cX0_tendFastLines 55 = .ok (.aload_n 0, 1) := by decide +kernel
theorem dX0_tendFastLines_56 : decode cX0_tendFastLines 56 = .ok (.getfield 47, 3) := by decide +kernel
theorem dX0_tendFastLines_59 : decode cX0_tendFastLines 59 = .ok (.iload 4, 2) := by decide +kernel
theorem dX0_tendFastLines_61 : decode cX0_tendFastLines 61 = .ok (.iaload, 1) := by decide +kernel
theorem dX0_tendFastLines_62 : decode cX0_tendFastLines 62 = .ok (.iload 5, 2) := by decide +kernel
theorem dX0_tendFastLines_64 : decode cX0_tendFastLines 64 = .ok (.if_icmp .ne 7, 3) := by decide +kernel
theorem dX0_tendFastLines_67 : decode cX0_tendFastLines 67 = .ok (.iconst 0, 1) := by decide +kernel
theorem dX0_tendFastLines_68 : decode cX0_tendFastLines 68 = .ok (.goto 4, 3) := by decide +kernel
theorem dX0_tendFastLines_71 : decode cX0_tendFastLines 71 = .ok (.iconst 1, 1) := by decide +kernel
theorem dX0_tendFastLines_72 : decode cX0_tendFastLines 72 = .ok (.iadd, 1) := by decide +kernel
theorem dX0_tendFastLines_73 : decode cX0_tendFastLines 73 = .ok (.istore_n 3, 1) := by decide +kernel
theorem dX0_tendFastLines_74 : decode cX0_tendFastLines 74 = .ok (.iinc 4 1, 3) := by decide +kernel
theorem dX0_tendFastLines_77 : decode cX0_tendFastLines 77 = .ok (.goto (-66), 3) := by decide +kernel
theorem dX0_tendFastLines_80 : decode cX0_tendFastLines 80 = .ok (.iload_n 3, 1) := by decide +kernel
theorem dX0_tendFastLines_81 : decode cX0_tendFastLines 81 = .ok (.ireturn, 1) := by decide +kernel
set_option maxRecDepth 20000 in
theorem ggX0_tendThrough_X0_holdsIn : GoodIn wsX0_tendThrough wsX0_holdsIn := goodIn_r _ [5, 6, 7, 8, 4, 9, 10, 11, 12, 13, 14, 15, 16, 17, 18, 19, 20, 21, 22, 23, 24, 25, 26, 27, 28, 29, 30, 31, 32, 33, 34, 35, 36, 37, 38, 39, 40, 41, 42, 43, 44, 45, 46, 47, 48, 49, 50, 51, 52, 53, 54, 55, 56, 57, 58, 59, 60, 61, 62, 63, 64, 65, 66, 67, 68, 69, 74, 75, 76, 77, 78, 79, 80, 81, 82, 83, 84, 85, 86, 87, 88] (by decide +kernel) (by decide +kernel)
set_option maxRecDepth 20000 in
theorem gX0_tendThrough_X0_holdsIn : GoodIn wsX0_tendThrough (wsV RX0 107 RX0 yX0_holdsIn wsX0_holdsIn) := goodIn_app (goodIn_of _ (by decide +kernel)) ggX0_tendThrough_X0_holdsIn
set_option maxRecDepth 20000 in
theorem ggX0_tendThrough_X0_tendFastLines : GoodIn wsX0_tendThrough wsX0_tendFastLines := goodIn_r _ [73, 20, 39, 41, 6, 7, 8, 4, 9, 10, 11, 12, 13, 14, 15, 16, 17, 18, 19, 21, 22, 23, 24, 25, 26, 27, 28, 29, 30, 31, 32, 33, 34, 35, 36, 37, 38, 40, 42, 43, 44, 45, 55, 56, 57, 58, 74, 75, 76, 77, 78, 79, 80, 81, 82, 83, 84, 85, 86, 87, 88] (by decide +kernel) (by decide +kernel)
set_option maxRecDepth 20000 in
theorem gX0_tendThrough_X0_tendFastLines : GoodIn wsX0_tendThrough (wsV RX0 118 RX0 yX0_tendFastLines wsX0_tendFastLines) := goodIn_app (goodIn_of _ (by decide +kernel)) ggX0_tendThrough_X0_tendFastLines
theorem dX0_tendThrough_0 : decode cX0_tendThrough 0 = .ok (.iconst 0, 1) := by decide +kernel
theorem dX0_tendThrough_1 : decode cX0_tendThrough 1 = .ok (.istore_n 3, 1) := by decide +kernel
theorem dX0_tendThrough_2 : decode cX0_tendThrough 2 = .ok (.iload_n 1, 1) := by decide +kernel
theorem dX0_tendThrough_3 : decode cX0_tendThrough 3 = .ok (.istore 4, 2) := by decide +kernel
theorem dX0_tendThrough_5 : decode cX0_tendThrough 5 = .ok (.iload 4, 2) := by decide +kernel
theorem dX0_tendThrough_7 : decode cX0_tendThrough 7 = .ok (.iload_n 2, 1) := by decide +kernel
theorem dX0_tendThrough_8 : decode cX0_tendThrough 8 = .ok (.if_icmp .gt 39, 3) := by decide +kernel
theorem dX0_tendThrough_11 : decode cX0_tendThrough 11 = .ok (.aload_n 0, 1) := by decide +kernel
theorem dX0_tendThrough_12 : decode cX0_tendThrough 12 = .ok (.iload 4, 2) := by decide +kernel
theorem dX0_tendThrough_14 : decode cX0_tendThrough 14 = .ok (.invokevirtual 107, 3) := by decide +kernel
theorem dX0_tendThrough_17 : decode cX0_tendThrough 17 = .ok (.ifCond .ne 24, 3) := by decide +kernel
theorem dX0_tendThrough_20 : decode cX0_tendThrough 20 = .ok (.aload_n 0, 1) := by decide +kernel
theorem dX0_tendThrough_21 : decode cX0_tendThrough 21 = .ok (.iload 4, 2) := by decide +kernel
theorem dX0_tendThrough_23 : decode cX0_tendThrough 23 = .ok (.invokevirtual 118, 3) := by decide +kernel
theorem dX0_tendThrough_26 : decode cX0_tendThrough 26 = .ok (.pop, 1) := by decide +kernel
theorem dX0_tendThrough_27 : decode cX0_tendThrough 27 = .ok (.iinc 3 1, 3) := by decide +kernel
theorem dX0_tendThrough_30 : decode cX0_tendThrough 30 = .ok (.aload_n 0, 1) := by decide +kernel
theorem dX0_tendThrough_31 : decode cX0_tendThrough 31 = .ok (.iload 4, 2) := by decide +kernel
theorem dX0_tendThrough_33 : decode cX0_tendThrough 33 = .ok (.invokevirtual 107, 3) := by decide +kernel
theorem dX0_tendThrough_36 : decode cX0_tendThrough 36 = .ok (.ifCond .ne 5, 3) := by decide +kernel
theorem dX0_tendThrough_39 : decode cX0_tendThrough 39 = .ok (.iconst (-1), 1) := by decide +kernel
theorem dX0_tendThrough_40 : decode cX0_tendThrough 40 = .ok (.ireturn, 1) := by decide +kernel
theorem dX0_tendThrough_41 : decode cX0_tendThrough 41 = .ok (.iinc 4 1, 3) := by decide +kernel
theorem dX0_tendThrough_44 : decode cX0_tendThrough 44 = .ok (.goto (-39), 3) := by decide +kernel
theorem dX0_tendThrough_47 : decode cX0_tendThrough 47 = .ok (.iload_n 3, 1) := by decide +kernel
theorem dX0_tendThrough_48 : decode cX0_tendThrough 48 = .ok (.ireturn, 1) := by decide +kernel
theorem dX1_init_0 : decode cX1_init 0 = .ok (.aload_n 0, 1) := by decide +kernel
theorem dX1_init_1 : decode cX1_init 1 = .ok (.invokespecial 1, 3) := by decide +kernel
theorem dX1_init_4 : decode cX1_init 4 = .ok (.aload_n 0, 1) := by decide +kernel
theorem dX1_init_5 : decode cX1_init 5 = .ok (.bipush 6, 2) := by decide +kernel
theorem dX1_init_7 : decode cX1_init 7 = .ok (.newarray .int, 2) := by decide +kernel
theorem dX1_init_9 : decode cX1_init 9 = .ok (.putfield 7, 3) := by decide +kernel
theorem dX1_init_12 : decode cX1_init 12 = .ok (.aload_n 0, 1) := by decide +kernel
theorem dX1_init_13 : decode cX1_init 13 = .ok (.bipush 6, 2) := by decide +kernel
theorem dX1_init_15 : decode cX1_init 15 = .ok (.newarray .int, 2) := by decide +kernel
theorem dX1_init_17 : decode cX1_init 17 = .ok (.putfield 13, 3) := by decide +kernel
theorem dX1_init_20 : decode cX1_init 20 = .ok (.aload_n 0, 1) := by decide +kernel
theorem dX1_init_21 : decode cX1_init 21 = .ok (.bipush 10, 2) := by decide +kernel
theorem dX1_init_23 : decode cX1_init 23 = .ok (.newarray .int, 2) := by decide +kernel
theorem dX1_init_25 : decode cX1_init 25 = .ok (.putfield 16, 3) := by decide +kernel
theorem dX1_init_28 : decode cX1_init 28 = .ok (.aload_n 0, 1) := by decide +kernel
theorem dX1_init_29 : decode cX1_init 29 = .ok (.bipush 10, 2) := by decide +kernel
theorem dX1_init_31 : decode cX1_init 31 = .ok (.newarray .int, 2) := by decide +kernel
theorem dX1_init_33 : decode cX1_init 33 = .ok (.putfield 19, 3) := by decide +kernel
theorem dX1_init_36 : decode cX1_init 36 = .ok (.aload_n 0, 1) := by decide +kernel
theorem dX1_init_37 : decode cX1_init 37 = .ok (.bipush 10, 2) := by decide +kernel
theorem dX1_init_39 : decode cX1_init 39 = .ok (.newarray .int, 2) := by decide +kernel
theorem dX1_init_41 : decode cX1_init 41 = .ok (.putfield 22, 3) := by decide +kernel
theorem dX1_init_44 : decode cX1_init 44 = .ok (.aload_n 0, 1) := by decide +kernel
theorem dX1_init_45 : decode cX1_init 45 = .ok (.bipush 10, 2) := by decide +kernel
theorem dX1_init_47 : decode cX1_init 47 = .ok (.newarray .int, 2) := by decide +kernel
theorem dX1_init_49 : decode cX1_init 49 = .ok (.putfield 25, 3) := by decide +kernel
theorem dX1_init_52 : decode cX1_init 52 = .ok (.aload_n 0, 1) := by decide +kernel
theorem dX1_init_53 : decode cX1_init 53 = .ok (.bipush 10, 2) := by decide +kernel
theorem dX1_init_55 : decode cX1_init 55 = .ok (.newarray .int, 2) := by decide +kernel
theorem dX1_init_57 : decode cX1_init 57 = .ok (.putfield 28, 3) := by decide +kernel
theorem dX1_init_60 : decode cX1_init 60 = .ok (.aload_n 0, 1) := by decide +kernel
theorem dX1_init_61 : decode cX1_init 61 = .ok (.bipush 10, 2) := by decide +kernel
theorem dX1_init_63 : decode cX1_init 63 = .ok (.newarray .boolean, 2) := by decide +kernel
theorem dX1_init_65 : decode cX1_init 65 = .ok (.putfield 31, 3) := by decide +kernel
theorem dX1_init_68 : decode cX1_init 68 = .ok (.aload_n 0, 1) := by decide +kernel
theorem dX1_init_69 : decode cX1_init 69 = .ok (.bipush 48, 2) := by decide +kernel
theorem dX1_init_71 : decode cX1_init 71 = .ok (.newarray .int, 2) := by decide +kernel
theorem dX1_init_73 : decode cX1_init 73 = .ok (.putfield 35, 3) := by decide +kernel
theorem dX1_init_76 : decode cX1_init 76 = .ok (.aload_n 0, 1) := by decide +kernel
theorem dX1_init_77 : decode cX1_init 77 = .ok (.bipush 48, 2) := by decide +kernel
theorem dX1_init_79 : decode cX1_init 79 = .ok (.newarray .int, 2) := by decide +kernel
theorem dX1_init_81 : decode cX1_init 81 = .ok (.putfield 38, 3) := by decide +kernel
theorem dX1_init_84 : decode cX1_init 84 = .ok (.aload_n 0, 1) := by decide +kernel
theorem dX1_init_85 : decode cX1_init 85 = .ok (.bipush 48, 2) := by decide +kernel
theorem dX1_init_87 : decode cX1_init 87 = .ok (.newarray .int, 2) := by decide +kernel
theorem dX1_init_89 : decode cX1_init 89 = .ok (.putfield 41, 3) := by decide +kernel
theorem dX1_init_92 : decode cX1_init 92 = .ok (.aload_n 0, 1) := by decide +kernel
theorem dX1_init_93 : decode cX1_init 93 = .ok (.bipush 10, 2) := by decide +kernel
theorem dX1_init_95 : decode cX1_init 95 = .ok (.newarray .int, 2) := by decide +kernel
theorem dX1_init_97 : decode cX1_init 97 = .ok (.putfield 44, 3) := by decide +kernel
theorem dX1_init_100 : decode cX1_init 100 = .ok (.return_, 1) := by decide +kernel
theorem dX1_thrown_0 : decode cX1_thrown 0 = .ok (.aload_n 0, 1) := by decide +kernel
theorem dX1_thrown_1 : decode cX1_thrown 1 = .ok (.getfield 47, 3) := by decide +kernel
theorem dX1_thrown_4 : decode cX1_thrown 4 = .ok (.ireturn, 1) := by decide +kernel
theorem dX1_in_0 : decode cX1_in 0 = .ok (.iload_n 0, 1) := by decide +kernel
theorem dX1_in_1 : decode cX1_in 1 = .ok (.iload_n 1, 1) := by decide +kernel
theorem dX1_in_2 : decode cX1_in 2 = .ok (.if_icmp .lt 12, 3) := by decide +kernel
theorem dX1_in_5 : decode cX1_in 5 = .ok (.iload_n 0, 1) := by decide +kernel
theorem dX1_in_6 : decode cX1_in 6 = .ok (.iload_n 2, 1) := by decide +kernel
theorem dX1_in_7 : decode cX1_in 7 = .ok (.if_icmp .gt 7, 3) := by decide +kernel
theorem dX1_in_10 : decode cX1_in 10 = .ok (.iconst 1, 1) := by decide +kernel
theorem dX1_in_11 : decode cX1_in 11 = .ok (.goto 4, 3) := by decide +kernel
theorem dX1_in_14 : decode cX1_in 14 = .ok (.iconst 0, 1) := by decide +kernel
theorem dX1_in_15 : decode cX1_in 15 = .ok (.ireturn, 1) := by decide +kernel
theorem dX1_goes_0 : decode cX1_goes 0 = .ok (.aload_n 0, 1) := by decide +kernel
theorem dX1_goes_1 : decode cX1_goes 1 = .ok (.iload_n 1, 1) := by decide +kernel
theorem dX1_goes_2 : decode cX1_goes 2 = .ok (.ifCond .ne 7, 3) := by decide +kernel
theorem dX1_goes_5 : decode cX1_goes 5 = .ok (.iconst 1, 1) := by decide +kernel
theorem dX1_goes_6 : decode cX1_goes 6 = .ok (.goto 20, 3) := by decide +kernel
theorem dX1_goes_9 : decode cX1_goes 9 = .ok (.iload_n 2, 1) := by decide +kernel
theorem dX1_goes_10 : decode cX1_goes 10 = .ok (.ifCond .ne 7, 3) := by decide +kernel
theorem dX1_goes_13 : decode cX1_goes 13 = .ok (.iconst 2, 1) := by decide +kernel
theorem dX1_goes_14 : decode cX1_goes 14 = .ok (.goto 12, 3) := by decide +kernel
theorem dX1_goes_17 : decode cX1_goes 17 = .ok (.iload_n 3, 1) := by decide +kernel
theorem dX1_goes_18 : decode cX1_goes 18 = .ok (.ifCond .eq 7, 3) := by decide +kernel
theorem dX1_goes_21 : decode cX1_goes 21 = .ok (.iconst 0, 1) := by decide +kernel
theorem dX1_goes_22 : decode cX1_goes 22 = .ok (.goto 4, 3) := by decide +kernel
theorem dX1_goes_25 : decode cX1_goes 25 = .ok (.iconst 3, 1) := by decide +kernel
theorem dX1_goes_26 : decode cX1_goes 26 = .ok (.putfield 47, 3) := by decide +kernel
theorem dX1_goes_29 : decode cX1_goes 29 = .ok (.aload_n 0, 1) := by decide +kernel
theorem dX1_goes_30 : decode cX1_goes 30 = .ok (.getfield 47, 3) := by decide +kernel
theorem dX1_goes_33 : decode cX1_goes 33 = .ok (.ifCond .ne 7, 3) := by decide +kernel
theorem dX1_goes_36 : decode cX1_goes 36 = .ok (.iconst 1, 1) := by decide +kernel
theorem dX1_goes_37 : decode cX1_goes 37 = .ok (.goto 4, 3) := by decide +kernel
theorem dX1_goes_40 : decode cX1_goes 40 = .ok (.iconst 0, 1) := by decide +kernel
theorem dX1_goes_41 : decode cX1_goes 41 = .ok (.ireturn, 1) := by decide +kernel
set_option maxRecDepth 20000 in
theorem ggX1_isHour_X1_in : GoodIn wsX1_isHour wsX1_in := goodIn_r _ [4] (by decide +kernel) (by decide +kernel)
set_option maxRecDepth 20000 in
theorem gX1_isHour_X1_in : GoodIn wsX1_isHour (va_wsS RX1 51 yX1_in wsX1_in) := goodIn_app (goodIn_of _ (by decide +kernel)) ggX1_isHour_X1_in
theorem dX1_isHour_0 : decode cX1_isHour 0 = .ok (.iload_n 0, 1) := by decide +kernel
theorem dX1_isHour_1 : decode cX1_isHour 1 = .ok (.iconst 0, 1) := by decide +kernel
theorem dX1_isHour_2 : decode cX1_isHour 2 = .ok (.bipush 47, 2) := by decide +kernel
theorem dX1_isHour_4 : decode cX1_isHour 4 = .ok (.invokestatic 51, 3) := by decide +kernel
theorem dX1_isHour_7 : decode cX1_isHour 7 = .ok (.ireturn, 1) := by decide +kernel
set_option maxRecDepth 20000 in
theorem ggX1_isLine_X1_in : GoodIn wsX1_isLine wsX1_in := goodIn_r _ [5] (by decide +kernel) (by decide +kernel)
set_option maxRecDepth 20000 in
theorem gX1_isLine_X1_in : GoodIn wsX1_isLine (va_wsS RX1 51 yX1_in wsX1_in) := goodIn_app (goodIn_of _ (by decide +kernel)) ggX1_isLine_X1_in
theorem dX1_isLine_0 : decode cX1_isLine 0 = .ok (.iload_n 1, 1) := by decide +kernel
theorem dX1_isLine_1 : decode cX1_isLine 1 = .ok (.iconst 0, 1) := by decide +kernel
theorem dX1_isLine_2 : decode cX1_isLine 2 = .ok (.aload_n 0, 1) := by decide +kernel
theorem dX1_isLine_3 : decode cX1_isLine 3 = .ok (.getfield 55, 3) := by decide +kernel
theorem dX1_isLine_6 : decode cX1_isLine 6 = .ok (.iconst 1, 1) := by decide +kernel
theorem dX1_isLine_7 : decode cX1_isLine 7 = .ok (.isub, 1) := by decide +kernel
theorem dX1_isLine_8 : decode cX1_isLine 8 = .ok (.invokestatic 51, 3) := by decide +kernel
theorem dX1_isLine_11 : decode cX1_isLine 11 = .ok (.ireturn, 1) := by decide +kernel
set_option maxRecDepth 20000 in
theorem ggX1_addBollard_X1_in : GoodIn wsX1_addBollard wsX1_in := goodIn_r _ [8] (by decide +kernel) (by decide +kernel)
set_option maxRecDepth 20000 in
theorem gX1_addBollard_X1_in : GoodIn wsX1_addBollard (va_wsS RX1 51 yX1_in wsX1_in) := goodIn_app (goodIn_of _ (by decide +kernel)) ggX1_addBollard_X1_in
set_option maxRecDepth 20000 in
theorem ggX1_addBollard_X1_goes : GoodIn wsX1_addBollard wsX1_goes := goodIn_r _ [12, 13, 14, 15, 16, 17, 18, 19, 20, 21, 22, 23, 24, 25, 26, 27, 28, 29] (by decide +kernel) (by decide +kernel)
set_option maxRecDepth 20000 in
theorem gX1_addBollard_X1_goes : GoodIn wsX1_addBollard (wsV RX1 62 RX1 yX1_goes wsX1_goes) := goodIn_app (goodIn_of _ (by decide +kernel)) ggX1_addBollard_X1_goes
theorem dX1_addBollard_0 : decode cX1_addBollard 0 = .ok (.aload_n 0, 1) := by decide +kernel
theorem dX1_addBollard_1 : decode cX1_addBollard 1 = .ok (.iload_n 1, 1) := by decide +kernel
theorem dX1_addBollard_2 : decode cX1_addBollard 2 = .ok (.sipush (-5000), 3) := by decide +kernel
theorem dX1_addBollard_5 : decode cX1_addBollard 5 = .ok (.sipush 5000, 3) := by decide +kernel
theorem dX1_addBollard_8 : decode cX1_addBollard 8 = .ok (.invokestatic 51, 3) := by decide +kernel
theorem dX1_addBollard_11 : decode cX1_addBollard 11 = .ok (.ifCond .eq 17, 3) := by decide +kernel
theorem dX1_addBollard_14 : decode cX1_addBollard 14 = .ok (.iload_n 2, 1) := by decide +kernel
theorem dX1_addBollard_15 : decode cX1_addBollard 15 = .ok (.iconst 1, 1) := by decide +kernel
theorem dX1_addBollard_16 : decode cX1_addBollard 16 = .ok (.ldc 58, 2) := by decide +kernel
theorem dX1_addBollard_18 : decode cX1_addBollard 18 = .ok (.invokestatic 51, 3) := by decide +kernel
theorem dX1_addBollard_21 : decode cX1_addBollard 21 = .ok (.ifCond .eq 7, 3) := by decide +kernel
theorem dX1_addBollard_24 : decode cX1_addBollard 24 = .ok (.iconst 1, 1) := by decide +kernel
theorem dX1_addBollard_25 : decode cX1_addBollard 25 = .ok (.goto 4, 3) := by decide +kernel
theorem dX1_addBollard_28 : decode cX1_addBollard 28 = .ok (.iconst 0, 1) := by decide +kernel
theorem dX1_addBollard_29 : decode cX1_addBollard 29 = .ok (.aload_n 0, 1) := by decide +kernel
theorem dX1_addBollard_30 : decode cX1_addBollard 30 = .ok (.getfield 59, 3) := by decide +kernel
theorem dX1_addBollard_33 : decode cX1_addBollard 33 = .ok (.bipush 6, 2) := by decide +kernel
theorem dX1_addBollard_35 : decode cX1_addBollard 35 = .ok (.if_icmp .ge 7, 3) := by decide +kernel
theorem dX1_addBollard_38 : decode cX1_addBollard 38 = .ok (.iconst 1, 1) := by decide +kernel
theorem dX1_addBollard_39 : decode cX1_addBollard 39 = .ok (.goto 4, 3) := by decide +kernel
theorem dX1_addBollard_42 : decode cX1_addBollard 42 = .ok (.iconst 0, 1) := by decide +kernel
theorem dX1_addBollard_43 : decode cX1_addBollard 43 = .ok (.iconst 1, 1) := by decide +kernel
theorem dX1_addBollard_44 : decode cX1_addBollard 44 = .ok (.invokevirtual 62, 3) := by decide +kernel
theorem dX1_addBollard_47 : decode cX1_addBollard 47 = .ok (.ifCond .ne 5, 3) := by decide +kernel
theorem dX1_addBollard_50 : decode cX1_addBollard 50 = .ok (.iconst 0, 1) := by decide +kernel
theorem dX1_addBollard_51 : decode cX1_addBollard 51 = .ok (.ireturn, 1) := by decide +kernel
theorem dX1_addBollard_52 : decode cX1_addBollard 52 = .ok (.aload_n 0, 1) := by decide +kernel
theorem dX1_addBollard_53 : decode cX1_addBollard 53 = .ok (.getfield 7, 3) := by decide +kernel
theorem dX1_addBollard_56 : decode cX1_addBollard 56 = .ok (.aload_n 0, 1) := by decide +kernel
theorem dX1_addBollard_57 : decode cX1_addBollard 57 = .ok (.getfield 59, 3) := by decide +kernel
theorem dX1_addBollard_60 : decode cX1_addBollard 60 = .ok (.iload_n 1, 1) := by decide +kernel
theorem dX1_addBollard_61 : decode cX1_addBollard 61 = .ok (.iastore, 1) := by decide +kernel
theorem dX1_addBollard_62 : decode cX1_addBollard 62 = .ok (.aload_n 0, 1) := by decide +kernel
theorem dX1_addBollard_63 : decode cX1_addBollard 63 = .ok (.getfield 13, 3) := by decide +kernel
theorem dX1_addBollard_66 : decode cX1_addBollard 66 = .ok (.aload_n 0, 1) := by decide +kernel
theorem dX1_addBollard_67 : decode cX1_addBollard 67 = .ok (.getfield 59, 3) := by decide +kernel
theorem dX1_addBollard_70 : decode cX1_addBollard 70 = .ok (.iload_n 2, 1) := by decide +kernel
theorem dX1_addBollard_71 : decode cX1_addBollard 71 = .ok (.iastore, 1) := by decide +kernel
theorem dX1_addBollard_72 : decode cX1_addBollard 72 = .ok (.aload_n 0, 1) := by decide +kernel
theorem dX1_addBollard_73 : decode cX1_addBollard 73 = .ok (.dup, 1) := by decide +kernel
theorem dX1_addBollard_74 : decode cX1_addBollard 74 = .ok (.getfield 59, 3) := by decide +kernel
theorem dX1_addBollard_77 : decode cX1_addBollard 77 = .ok (.iconst 1, 1) := by decide +kernel
theorem dX1_addBollard_78 : decode cX1_addBollard 78 = .ok (.iadd, 1) := by decide +kernel
theorem dX1_addBollard_79 : decode cX1_addBollard 79 = .ok (.putfield 59, 3) := by decide +kernel
theorem dX1_addBollard_82 : decode cX1_addBollard 82 = .ok (.aload_n 0, 1) := by decide +kernel
theorem dX1_addBollard_83 : decode cX1_addBollard 83 = .ok (.getfield 59, 3) := by decide +kernel
theorem dX1_addBollard_86 : decode cX1_addBollard 86 = .ok (.iconst 1, 1) := by decide +kernel
theorem dX1_addBollard_87 : decode cX1_addBollard 87 = .ok (.isub, 1) := by decide +kernel
theorem dX1_addBollard_88 : decode cX1_addBollard 88 = .ok (.ireturn, 1) := by decide +kernel
theorem dX1_root_0 : decode cX1_root 0 = .ok (.iload_n 0, 1) := by decide +kernel
theorem dX1_root_1 : decode cX1_root 1 = .ok (.iload_n 0, 1) := by decide +kernel
theorem dX1_root_2 : decode cX1_root 2 = .ok (.imul, 1) := by decide +kernel
theorem dX1_root_3 : decode cX1_root 3 = .ok (.iload_n 1, 1) := by decide +kernel
theorem dX1_root_4 : decode cX1_root 4 = .ok (.iload_n 1, 1) := by decide +kernel
theorem dX1_root_5 : decode cX1_root 5 = .ok (.imul, 1) := by decide +kernel
theorem dX1_root_6 : decode cX1_root 6 = .ok (.iadd, 1) := by decide +kernel
theorem dX1_root_7 : decode cX1_root 7 = .ok (.istore_n 2, 1) := by decide +kernel
theorem dX1_root_8 : decode cX1_root 8 = .ok (.iconst 0, 1) := by decide +kernel
theorem dX1_root_9 : decode cX1_root 9 = .ok (.istore_n 3, 1) := by decide +kernel
theorem dX1_root_10 : decode cX1_root 10 = .ok (.sipush 20000, 3) := by decide +kernel
theorem dX1_root_13 : decode cX1_root 13 = .ok (.istore 4, 2) := by decide +kernel
theorem dX1_root_15 : decode cX1_root 15 = .ok (.iload_n 3, 1) := by decide +kernel
theorem dX1_root_16 : decode cX1_root 16 = .ok (.iload 4, 2) := by decide +kernel
theorem dX1_root_18 : decode cX1_root 18 = .ok (.if_icmp .ge 37, 3) := by decide +kernel
theorem dX1_root_21 : decode cX1_root 21 = .ok (.iload_n 3, 1) := by decide +kernel
theorem dX1_root_22 : decode cX1_root 22 = .ok (.iload 4, 2) := by decide +kernel
theorem dX1_root_24 : decode cX1_root 24 = .ok (.iadd, 1) := by decide +kernel
theorem dX1_root_25 : decode cX1_root 25 = .ok (.iconst 1, 1) := by decide +kernel
theorem dX1_root_26 : decode cX1_root 26 = .ok (.iadd, 1) := by decide +kernel
theorem dX1_root_27 : decode cX1_root 27 = .ok (.iconst 2, 1) := by decide +kernel
theorem dX1_root_28 : decode cX1_root 28 = .ok (.idiv, 1) := by decide +kernel
theorem dX1_root_29 : decode cX1_root 29 = .ok (.istore 5, 2) := by decide +kernel
theorem dX1_root_31 : decode cX1_root 31 = .ok (.iload 5, 2) := by decide +kernel
theorem dX1_root_33 : decode cX1_root 33 = .ok (.iload 5, 2) := by decide +kernel
theorem dX1_root_35 : decode cX1_root 35 = .ok (.imul, 1) := by decide +kernel
theorem dX1_root_36 : decode cX1_root 36 = .ok (.iload_n 2, 1) := by decide +kernel
theorem dX1_root_37 : decode cX1_root 37 = .ok (.if_icmp .gt 9, 3) := by decide +kernel
theorem dX1_root_40 : decode cX1_root 40 = .ok (.iload 5, 2) := by decide +kernel
theorem dX1_root_42 : decode cX1_root 42 = .ok (.istore_n 3, 1) := by decide +kernel
theorem dX1_root_43 : decode cX1_root 43 = .ok (.goto 9, 3) := by decide +kernel
theorem dX1_root_46 : decode cX1_root 46 = .ok (.iload 5, 2) := by decide +kernel
theorem dX1_root_48 : decode cX1_root 48 = .ok (.iconst 1, 1) := by decide +kernel
theorem dX1_root_49 : decode cX1_root 49 = .ok (.isub, 1) := by decide +kernel
theorem dX1_root_50 : decode cX1_root 50 = .ok (.istore 4, 2) := by decide +kernel
theorem dX1_root_52 : decode cX1_root 52 = .ok (.goto (-37), 3) := by decide +kernel
theorem dX1_root_55 : decode cX1_root 55 = .ok (.iload_n 3, 1) := by decide +kernel
theorem dX1_root_56 : decode cX1_root 56 = .ok (.ireturn, 1) := by decide +kernel
set_option maxRecDepth 20000 in
theorem ggX1_addLine_X1_in : GoodIn wsX1_addLine wsX1_in := goodIn_r _ [13] (by decide +kernel) (by decide +kernel)
set_option maxRecDepth 20000 in
theorem gX1_addLine_X1_in : GoodIn wsX1_addLine (va_wsS RX1 51 yX1_in wsX1_in) := goodIn_app (goodIn_of _ (by decide +kernel)) ggX1_addLine_X1_in
set_option maxRecDepth 20000 in
theorem ggX1_addLine_X1_goes : GoodIn wsX1_addLine wsX1_goes := goodIn_r _ [17, 18, 22, 23, 24, 25, 26, 27, 28, 29, 30, 31, 32, 33, 34, 35, 36, 37] (by decide +kernel) (by decide +kernel)
set_option maxRecDepth 20000 in
theorem gX1_addLine_X1_goes : GoodIn wsX1_addLine (wsV RX1 62 RX1 yX1_goes wsX1_goes) := goodIn_app (goodIn_of _ (by decide +kernel)) ggX1_addLine_X1_goes
set_option maxRecDepth 20000 in
theorem ggX1_addLine_X1_root : GoodIn wsX1_addLine wsX1_root := goodIn_r _ [21] (by decide +kernel) (by decide +kernel)
set_option maxRecDepth 20000 in
theorem gX1_addLine_X1_root : GoodIn wsX1_addLine (va_wsS RX1 66 yX1_root wsX1_root) := goodIn_app (goodIn_of _ (by decide +kernel)) ggX1_addLine_X1_root
theorem dX1_addLine_0 : decode cX1_addLine 0 = .ok (.iload_n 2, 1) := by decide +kernel
theorem dX1_addLine_1 : decode cX1_addLine 1 = .ok (.iconst 0, 1) := by decide +kernel
theorem dX1_addLine_2 : decode cX1_addLine 2 = .ok (.aload_n 0, 1) := by decide +kernel
theorem dX1_addLine_3 : decode cX1_addLine 3 = .ok (.getfield 59, 3) := by decide +kernel
theorem dX1_addLine_6 : decode cX1_addLine 6 = .ok (.iconst 1, 1) := by decide +kernel
theorem dX1_addLine_7 : decode cX1_addLine 7 = .ok (.isub, 1) := by decide +kernel
theorem dX1_addLine_8 : decode cX1_addLine 8 = .ok (.invokestatic 51, 3) := by decide +kernel
theorem dX1_addLine_11 : decode cX1_addLine 11 = .ok (.istore 5, 2) := by decide +kernel
theorem dX1_addLine_13 : decode cX1_addLine 13 = .ok (.iload_n 1, 1) := by decide +kernel
theorem dX1_addLine_14 : decode cX1_addLine 14 = .ok (.sipush (-5000), 3) := by decide +kernel
theorem dX1_addLine_17 : decode cX1_addLine 17 = .ok (.sipush 5000, 3) := by decide +kernel
theorem dX1_addLine_20 : decode cX1_addLine 20 = .ok (.invokestatic 51, 3) := by decide +kernel
theorem dX1_addLine_23 : decode cX1_addLine 23 = .ok (.ifCond .eq 28, 3) := by decide +kernel
theorem dX1_addLine_26 : decode cX1_addLine 26 = .ok (.iload_n 3, 1) := by decide +kernel
theorem dX1_addLine_27 : decode cX1_addLine 27 = .ok (.iconst 1, 1) := by decide +kernel
theorem dX1_addLine_28 : decode cX1_addLine 28 = .ok (.bipush 100, 2) := by decide +kernel
theorem dX1_addLine_30 : decode cX1_addLine 30 = .ok (.invokestatic 51, 3) := by decide +kernel
theorem dX1_addLine_33 : decode cX1_addLine 33 = .ok (.ifCond .eq 18, 3) := by decide +kernel
theorem dX1_addLine_36 : decode cX1_addLine 36 = .ok (.iload 4, 2) := by decide +kernel
theorem dX1_addLine_38 : decode cX1_addLine 38 = .ok (.iconst 1, 1) := by decide +kernel
theorem dX1_addLine_39 : decode cX1_addLine 39 = .ok (.ldc 58, 2) := by decide +kernel
theorem dX1_addLine_41 : decode cX1_addLine 41 = .ok (.invokestatic 51, 3) := by decide +kernel
theorem dX1_addLine_44 : decode cX1_addLine 44 = .ok (.ifCond .eq 7, 3) := by decide +kernel
theorem dX1_addLine_47 : decode cX1_addLine 47 = .ok (.iconst 1, 1) := by decide +kernel
theorem dX1_addLine_48 : decode cX1_addLine 48 = .ok (.goto 4, 3) := by decide +kernel
theorem dX1_addLine_51 : decode cX1_addLine 51 = .ok (.iconst 0, 1) := by decide +kernel
theorem dX1_addLine_52 : decode cX1_addLine 52 = .ok (.istore 6, 2) := by decide +kernel
theorem dX1_addLine_54 : decode cX1_addLine 54 = .ok (.aload_n 0, 1) := by decide +kernel
theorem dX1_addLine_55 : decode cX1_addLine 55 = .ok (.iload 5, 2) := by decide +kernel
theorem dX1_addLine_57 : decode cX1_addLine 57 = .ok (.iload 6, 2) := by decide +kernel
theorem dX1_addLine_59 : decode cX1_addLine 59 = .ok (.aload_n 0, 1) := by decide +kernel
theorem dX1_addLine_60 : decode cX1_addLine 60 = .ok (.getfield 55, 3) := by decide +kernel
theorem dX1_addLine_63 : decode cX1_addLine 63 = .ok (.bipush 10, 2) := by decide +kernel
theorem dX1_addLine_65 : decode cX1_addLine 65 = .ok (.if_icmp .ge 7, 3) := by decide +kernel
theorem dX1_addLine_68 : decode cX1_addLine 68 = .ok (.iconst 1, 1) := by decide +kernel
theorem dX1_addLine_69 : decode cX1_addLine 69 = .ok (.goto 4, 3) := by decide +kernel
theorem dX1_addLine_72 : decode cX1_addLine 72 = .ok (.iconst 0, 1) := by decide +kernel
theorem dX1_addLine_73 : decode cX1_addLine 73 = .ok (.invokevirtual 62, 3) := by decide +kernel
theorem dX1_addLine_76 : decode cX1_addLine 76 = .ok (.ifCond .ne 5, 3) := by decide +kernel
theorem dX1_addLine_79 : decode cX1_addLine 79 = .ok (.iconst 0, 1) := by decide +kernel
theorem dX1_addLine_80 : decode cX1_addLine 80 = .ok (.ireturn, 1) := by decide +kernel
theorem dX1_addLine_81 : decode cX1_addLine 81 = .ok (.aload_n 0, 1) := by decide +kernel
theorem dX1_addLine_82 : decode cX1_addLine 82 = .ok (.getfield 16, 3) := by decide +kernel
theorem dX1_addLine_85 : decode cX1_addLine 85 = .ok (.aload_n 0, 1) := by decide +kernel
theorem dX1_addLine_86 : decode cX1_addLine 86 = .ok (.getfield 55, 3) := by decide +kernel
theorem dX1_addLine_89 : decode cX1_addLine 89 = .ok (.iload_n 1, 1) := by decide +kernel
theorem dX1_addLine_90 : decode cX1_addLine 90 = .ok (.iastore, 1) := by decide +kernel
theorem dX1_addLine_91 : decode cX1_addLine 91 = .ok (.aload_n 0, 1) := by decide +kernel
theorem dX1_addLine_92 : decode cX1_addLine 92 = .ok (.getfield 19, 3) := by decide +kernel
theorem dX1_addLine_95 : decode cX1_addLine 95 = .ok (.aload_n 0, 1) := by decide +kernel
theorem dX1_addLine_96 : decode cX1_addLine 96 = .ok (.getfield 55, 3) := by decide +kernel
theorem dX1_addLine_99 : decode cX1_addLine 99 = .ok (.iload_n 2, 1) := by decide +kernel
theorem dX1_addLine_100 : decode cX1_addLine 100 = .ok (.iastore, 1) := by decide +kernel
theorem dX1_addLine_101 : decode cX1_addLine 101 = .ok (.aload_n 0, 1) := by decide +kernel
theorem dX1_addLine_102 : decode cX1_addLine 102 = .ok (.getfield 22, 3) := by decide +kernel
theorem dX1_addLine_105 : decode cX1_addLine 105 = .ok (.aload_n 0, 1) := by decide +kernel
theorem dX1_addLine_106 : decode cX1_addLine 106 = .ok (.getfield 55, 3) := by decide +kernel
theorem dX1_addLine_109 : decode cX1_addLine 109 = .ok (.iload_n 3, 1) := by decide +kernel
theorem dX1_addLine_110 : decode cX1_addLine 110 = .ok (.iastore, 1) := by decide +kernel
theorem dX1_addLine_111 : decode cX1_addLine 111 = .ok (.aload_n 0, 1) := by decide +kernel
theorem dX1_addLine_112 : decode cX1_addLine 112 = .ok (.getfield 25, 3) := by decide +kernel
theorem dX1_addLine_115 : decode cX1_addLine 115 = .ok (.aload_n 0, 1) := by decide +kernel
theorem dX1_addLine_116 : decode cX1_addLine 116 = .ok (.getfield 55, 3) := by decide +kernel
theorem dX1_addLine_119 : decode cX1_addLine 119 = .ok (.iload 4, 2) := by decide +kernel
theorem dX1_addLine_121 : decode cX1_addLine 121 = .ok (.iastore, 1) := by decide +kernel
theorem dX1_addLine_122 : decode cX1_addLine 122 = .ok (.aload_n 0, 1) := by decide +kernel
theorem dX1_addLine_123 : decode cX1_addLine 123 = .ok (.getfield 28, 3) := by decide +kernel
theorem dX1_addLine_126 : decode cX1_addLine 126 = .ok (.aload_n 0, 1) := by decide +kernel
theorem dX1_addLine_127 : decode cX1_addLine 127 = .ok (.getfield 55, 3) := by decide +kernel
theorem dX1_addLine_130 : decode cX1_addLine 130 = .ok (.aload_n 0, 1) := by decide +kernel
theorem dX1_addLine_131 : decode cX1_addLine 131 = .ok (.getfield 7, 3) := by decide +kernel
theorem dX1_addLine_134 : decode cX1_addLine 134 = .ok (.iload_n 2, 1) := by decide +kernel
theorem dX1_addLine_135 : decode cX1_addLine 135 = .ok (.iaload, 1) := by decide +kernel
theorem dX1_addLine_136 : decode cX1_addLine 136 = .ok (.iload_n 1, 1) := by decide +kernel
theorem dX1_addLine_137 : decode cX1_addLine 137 = .ok (.isub, 1) := by decide +kernel
theorem dX1_addLine_138 : decode cX1_addLine 138 = .ok (.sipush 300, 3) := by decide +kernel
theorem dX1_addLine_141 : decode cX1_addLine 141 = .ok (.invokestatic 66, 3) := by decide +kernel
theorem dX1_addLine_144 : decode cX1_addLine 144 = .ok (.iastore, 1) := by decide +kernel
theorem dX1_addLine_145 : decode cX1_addLine 145 = .ok (.aload_n 0, 1) := by decide +kernel
theorem dX1_addLine_146 : decode cX1_addLine 146 = .ok (.dup, 1) := by decide +kernel
theorem dX1_addLine_147 : decode cX1_addLine 147 = .ok (.getfield 55, 3) := by decide +kernel
theorem dX1_addLine_150 : decode cX1_addLine 150 = .ok (.iconst 1, 1) := by decide +kernel
theorem dX1_addLine_151 : decode cX1_addLine 151 = .ok (.iadd, 1) := by decide +kernel
theorem dX1_addLine_152 : decode cX1_addLine 152 = .ok (.putfield 55, 3) := by decide +kernel
theorem dX1_addLine_155 : decode cX1_addLine 155 = .ok (.aload_n 0, 1) := by decide +kernel
theorem dX1_addLine_156 : decode cX1_addLine 156 = .ok (.getfield 55, 3) := by decide +kernel
theorem dX1_addLine_159 : decode cX1_addLine 159 = .ok (.iconst 1, 1) := by decide +kernel
theorem dX1_addLine_160 : decode cX1_addLine 160 = .ok (.isub, 1) := by decide +kernel
theorem dX1_addLine_161 : decode cX1_addLine 161 = .ok (.ireturn, 1) := by decide +kernel
set_option maxRecDepth 20000 in
theorem ggX1_toggle_X1_isLine : GoodIn wsX1_toggle wsX1_isLine := goodIn_r _ [6, 7, 8, 9, 5, 10, 16, 17, 18, 19, 20, 21, 22, 23, 24, 25, 26, 27, 28, 29, 30, 31] (by decide +kernel) (by decide +kernel)
set_option maxRecDepth 20000 in
theorem gX1_toggle_X1_isLine : GoodIn wsX1_toggle (wsV RX1 70 RX1 yX1_isLine wsX1_isLine) := goodIn_app (goodIn_of _ (by decide +kernel)) ggX1_toggle_X1_isLine
set_option maxRecDepth 20000 in
theorem ggX1_toggle_X1_goes : GoodIn wsX1_toggle wsX1_goes := goodIn_r _ [14, 15, 16, 17, 18, 19, 20, 21, 22, 23, 24, 25, 26, 27, 28, 29, 30, 31] (by decide +kernel) (by decide +kernel)
set_option maxRecDepth 20000 in
theorem gX1_toggle_X1_goes : GoodIn wsX1_toggle (wsV RX1 62 RX1 yX1_goes wsX1_goes) := goodIn_app (goodIn_of _ (by decide +kernel)) ggX1_toggle_X1_goes
theorem dX1_toggle_0 : decode cX1_toggle 0 = .ok (.aload_n 0, 1) := by decide +kernel
theorem dX1_toggle_1 : decode cX1_toggle 1 = .ok (.aload_n 0, 1) := by decide +kernel
theorem dX1_toggle_2 : decode cX1_toggle 2 = .ok (.iload_n 1, 1) := by decide +kernel
theorem dX1_toggle_3 : decode cX1_toggle 3 = .ok (.invokevirtual 70, 3) := by decide +kernel
theorem dX1_toggle_6 : decode cX1_toggle 6 = .ok (.iconst 1, 1) := by decide +kernel
theorem dX1_toggle_7 : decode cX1_toggle 7 = .ok (.iconst 1, 1) := by decide +kernel
theorem dX1_toggle_8 : decode cX1_toggle 8 = .ok (.invokevirtual 62, 3) := by decide +kernel
theorem dX1_toggle_11 : decode cX1_toggle 11 = .ok (.ifCond .ne 5, 3) := by decide +kernel
theorem dX1_toggle_14 : decode cX1_toggle 14 = .ok (.iconst 0, 1) := by decide +kernel
theorem dX1_toggle_15 : decode cX1_toggle 15 = .ok (.ireturn, 1) := by decide +kernel
theorem dX1_toggle_16 : decode cX1_toggle 16 = .ok (.aload_n 0, 1) := by decide +kernel
theorem dX1_toggle_17 : decode cX1_toggle 17 = .ok (.getfield 31, 3) := by decide +kernel
theorem dX1_toggle_20 : decode cX1_toggle 20 = .ok (.iload_n 1, 1) := by decide +kernel
theorem dX1_toggle_21 : decode cX1_toggle 21 = .ok (.aload_n 0, 1) := by decide +kernel
theorem dX1_toggle_22 : decode cX1_toggle 22 = .ok (.getfield 31, 3) := by decide +kernel
theorem dX1_toggle_25 : decode cX1_toggle 25 = .ok (.iload_n 1, 1) := by decide +kernel
theorem dX1_toggle_26 : decode cX1_toggle 26 = .ok (.baload, 1) := by decide +kernel
theorem dX1_toggle_27 : decode cX1_toggle 27 = .ok (.ifCond .ne 7, 3) := by decide +kernel
theorem dX1_toggle_30 : decode cX1_toggle 30 = .ok (.iconst 1, 1) := by decide +kernel
theorem dX1_toggle_31 : decode cX1_toggle 31 = .ok (.goto 4, 3) := by decide +kernel
theorem dX1_toggle_34 : decode cX1_toggle 34 = .ok (.iconst 0, 1) := by decide +kernel
theorem dX1_toggle_35 : decode cX1_toggle 35 = .ok (.bastore, 1) := by decide +kernel
theorem dX1_toggle_36 : decode cX1_toggle 36 = .ok (.aload_n 0, 1) := by decide +kernel
theorem dX1_toggle_37 : decode cX1_toggle 37 = .ok (.getfield 31, 3) := by decide +kernel
theorem dX1_toggle_40 : decode cX1_toggle 40 = .ok (.iload_n 1, 1) := by decide +kernel
theorem dX1_toggle_41 : decode cX1_toggle 41 = .ok (.baload, 1) := by decide +kernel
theorem dX1_toggle_42 : decode cX1_toggle 42 = .ok (.ifCond .ne 7, 3) := by decide +kernel
theorem dX1_toggle_45 : decode cX1_toggle 45 = .ok (.iconst 1, 1) := by decide +kernel
theorem dX1_toggle_46 : decode cX1_toggle 46 = .ok (.goto 4, 3) := by decide +kernel
theorem dX1_toggle_49 : decode cX1_toggle 49 = .ok (.iconst 0, 1) := by decide +kernel
theorem dX1_toggle_50 : decode cX1_toggle 50 = .ok (.ireturn, 1) := by decide +kernel
set_option maxRecDepth 20000 in
theorem ggX1_setTide_X1_isHour : GoodIn wsX1_setTide wsX1_isHour := goodIn_r _ [5, 6, 7, 4, 8] (by decide +kernel) (by decide +kernel)
set_option maxRecDepth 20000 in
theorem gX1_setTide_X1_isHour : GoodIn wsX1_setTide (va_wsS RX1 74 yX1_isHour wsX1_isHour) := goodIn_app (goodIn_of _ (by decide +kernel)) ggX1_setTide_X1_isHour
set_option maxRecDepth 20000 in
theorem ggX1_setTide_X1_in : GoodIn wsX1_setTide wsX1_in := goodIn_r _ [8] (by decide +kernel) (by decide +kernel)
set_option maxRecDepth 20000 in
theorem gX1_setTide_X1_in : GoodIn wsX1_setTide (va_wsS RX1 51 yX1_in wsX1_in) := goodIn_app (goodIn_of _ (by decide +kernel)) ggX1_setTide_X1_in
set_option maxRecDepth 20000 in
theorem ggX1_setTide_X1_goes : GoodIn wsX1_setTide wsX1_goes := goodIn_r _ [12, 13, 14, 15, 16, 17, 18, 19, 20, 21, 22, 23, 24, 25, 26, 27, 28, 29] (by decide +kernel) (by decide +kernel)
set_option maxRecDepth 20000 in
theorem gX1_setTide_X1_goes : GoodIn wsX1_setTide (wsV RX1 62 RX1 yX1_goes wsX1_goes) := goodIn_app (goodIn_of _ (by decide +kernel)) ggX1_setTide_X1_goes
theorem dX1_setTide_0 : decode cX1_setTide 0 = .ok (.aload_n 0, 1) := by decide +kernel
theorem dX1_setTide_1 : decode cX1_setTide 1 = .ok (.iload_n 1, 1) := by decide +kernel
theorem dX1_setTide_2 : decode cX1_setTide 2 = .ok (.invokestatic 74, 3) := by decide +kernel
theorem dX1_setTide_5 : decode cX1_setTide 5 = .ok (.iload_n 2, 1) := by decide +kernel
theorem dX1_setTide_6 : decode cX1_setTide 6 = .ok (.sipush (-200), 3) := by decide +kernel
theorem dX1_setTide_9 : decode cX1_setTide 9 = .ok (.sipush 200, 3) := by decide +kernel
theorem dX1_setTide_12 : decode cX1_setTide 12 = .ok (.invokestatic 51, 3) := by decide +kernel
theorem dX1_setTide_15 : decode cX1_setTide 15 = .ok (.iconst 1, 1) := by decide +kernel
theorem dX1_setTide_16 : decode cX1_setTide 16 = .ok (.invokevirtual 62, 3) := by decide +kernel
theorem dX1_setTide_19 : decode cX1_setTide 19 = .ok (.ifCond .ne 5, 3) := by decide +kernel
theorem dX1_setTide_22 : decode cX1_setTide 22 = .ok (.iconst 0, 1) := by decide +kernel
theorem dX1_setTide_23 : decode cX1_setTide 23 = .ok (.ireturn, 1) := by decide +kernel
theorem dX1_setTide_24 : decode cX1_setTide 24 = .ok (.aload_n 0, 1) := by decide +kernel
theorem dX1_setTide_25 : decode cX1_setTide 25 = .ok (.getfield 35, 3) := by decide +kernel
theorem dX1_setTide_28 : decode cX1_setTide 28 = .ok (.iload_n 1, 1) := by decide +kernel
theorem dX1_setTide_29 : decode cX1_setTide 29 = .ok (.iaload, 1) := by decide +kernel
theorem dX1_setTide_30 : decode cX1_setTide 30 = .ok (.istore_n 3, 1) := by decide +kernel
theorem dX1_setTide_31 : decode cX1_setTide 31 = .ok (.aload_n 0, 1) := by decide +kernel
theorem dX1_setTide_32 : decode cX1_setTide 32 = .ok (.getfield 35, 3) := by decide +kernel
theorem dX1_setTide_35 : decode cX1_setTide 35 = .ok (.iload_n 1, 1) := by decide +kernel
theorem dX1_setTide_36 : decode cX1_setTide 36 = .ok (.iload_n 2, 1) := by decide +kernel
theorem dX1_setTide_37 : decode cX1_setTide 37 = .ok (.iastore, 1) := by decide +kernel
theorem dX1_setTide_38 : decode cX1_setTide 38 = .ok (.iload_n 3, 1) := by decide +kernel
theorem dX1_setTide_39 : decode cX1_setTide 39 = .ok (.ireturn, 1) := by decide +kernel
set_option maxRecDepth 20000 in
theorem ggX1_setLoad_X1_isHour : GoodIn wsX1_setLoad wsX1_isHour := goodIn_r _ [5, 6, 7, 4, 8] (by decide +kernel) (by decide +kernel)
set_option maxRecDepth 20000 in
theorem gX1_setLoad_X1_isHour : GoodIn wsX1_setLoad (va_wsS RX1 74 yX1_isHour wsX1_isHour) := goodIn_app (goodIn_of _ (by decide +kernel)) ggX1_setLoad_X1_isHour
set_option maxRecDepth 20000 in
theorem ggX1_setLoad_X1_in : GoodIn wsX1_setLoad wsX1_in := goodIn_r _ [8] (by decide +kernel) (by decide +kernel)
set_option maxRecDepth 20000 in
theorem gX1_setLoad_X1_in : GoodIn wsX1_setLoad (va_wsS RX1 51 yX1_in wsX1_in) := goodIn_app (goodIn_of _ (by decide +kernel)) ggX1_setLoad_X1_in
set_option maxRecDepth 20000 in
theorem ggX1_setLoad_X1_goes : GoodIn wsX1_setLoad wsX1_goes := goodIn_r _ [12, 13, 14, 15, 16, 17, 18, 19, 20, 21, 22, 23, 24, 25, 26, 27, 28, 29] (by decide +kernel) (by decide +kernel)
set_option maxRecDepth 20000 in
theorem gX1_setLoad_X1_goes : GoodIn wsX1_setLoad (wsV RX1 62 RX1 yX1_goes wsX1_goes) := goodIn_app (goodIn_of _ (by decide +kernel)) ggX1_setLoad_X1_goes
theorem dX1_setLoad_0 : decode cX1_setLoad 0 = .ok (.aload_n 0, 1) := by decide +kernel
theorem dX1_setLoad_1 : decode cX1_setLoad 1 = .ok (.iload_n 1, 1) := by decide +kernel
theorem dX1_setLoad_2 : decode cX1_setLoad 2 = .ok (.invokestatic 74, 3) := by decide +kernel
theorem dX1_setLoad_5 : decode cX1_setLoad 5 = .ok (.iload_n 2, 1) := by decide +kernel
theorem dX1_setLoad_6 : decode cX1_setLoad 6 = .ok (.sipush (-200), 3) := by decide +kernel
theorem dX1_setLoad_9 : decode cX1_setLoad 9 = .ok (.sipush 200, 3) := by decide +kernel
theorem dX1_setLoad_12 : decode cX1_setLoad 12 = .ok (.invokestatic 51, 3) := by decide +kernel
theorem dX1_setLoad_15 : decode cX1_setLoad 15 = .ok (.iconst 1, 1) := by decide +kernel
theorem dX1_setLoad_16 : decode cX1_setLoad 16 = .ok (.invokevirtual 62, 3) := by decide +kernel
theorem dX1_setLoad_19 : decode cX1_setLoad 19 = .ok (.ifCond .ne 5, 3) := by decide +kernel
theorem dX1_setLoad_22 : decode cX1_setLoad 22 = .ok (.iconst 0, 1) := by decide +kernel
theorem dX1_setLoad_23 : decode cX1_setLoad 23 = .ok (.ireturn, 1) := by decide +kernel
theorem dX1_setLoad_24 : decode cX1_setLoad 24 = .ok (.aload_n 0, 1) := by decide +kernel
theorem dX1_setLoad_25 : decode cX1_setLoad 25 = .ok (.getfield 38, 3) := by decide +kernel
theorem dX1_setLoad_28 : decode cX1_setLoad 28 = .ok (.iload_n 1, 1) := by decide +kernel
theorem dX1_setLoad_29 : decode cX1_setLoad 29 = .ok (.iaload, 1) := by decide +kernel
theorem dX1_setLoad_30 : decode cX1_setLoad 30 = .ok (.istore_n 3, 1) := by decide +kernel
theorem dX1_setLoad_31 : decode cX1_setLoad 31 = .ok (.iload_n 1, 1) := by decide +kernel
theorem dX1_setLoad_32 : decode cX1_setLoad 32 = .ok (.istore 4, 2) := by decide +kernel
theorem dX1_setLoad_34 : decode cX1_setLoad 34 = .ok (.iload 4, 2) := by decide +kernel
theorem dX1_setLoad_36 : decode cX1_setLoad 36 = .ok (.bipush 48, 2) := by decide +kernel
theorem dX1_setLoad_38 : decode cX1_setLoad 38 = .ok (.if_icmp .ge 17, 3) := by decide +kernel
theorem dX1_setLoad_41 : decode cX1_setLoad 41 = .ok (.aload_n 0, 1) := by decide +kernel
theorem dX1_setLoad_42 : decode cX1_setLoad 42 = .ok (.getfield 38, 3) := by decide +kernel
theorem dX1_setLoad_45 : decode cX1_setLoad 45 = .ok (.iload 4, 2) := by decide +kernel
theorem dX1_setLoad_47 : decode cX1_setLoad 47 = .ok (.iload_n 2, 1) := by decide +kernel
theorem dX1_setLoad_48 : decode cX1_setLoad 48 = .ok (.iastore, 1) := by decide +kernel
theorem dX1_setLoad_49 : decode cX1_setLoad 49 = .ok (.iinc 4 1, 3) := by decide +kernel
theorem dX1_setLoad_52 : decode cX1_setLoad 52 = .ok (.goto (-18), 3) := by decide +kernel
theorem dX1_setLoad_55 : decode cX1_setLoad 55 = .ok (.iload_n 3, 1) := by decide +kernel
theorem dX1_setLoad_56 : decode cX1_setLoad 56 = .ok (.ireturn, 1) := by decide +kernel
set_option maxRecDepth 20000 in
theorem ggX1_setWind_X1_in : GoodIn wsX1_setWind wsX1_in := goodIn_r _ [7] (by decide +kernel) (by decide +kernel)
set_option maxRecDepth 20000 in
theorem gX1_setWind_X1_in : GoodIn wsX1_setWind (va_wsS RX1 51 yX1_in wsX1_in) := goodIn_app (goodIn_of _ (by decide +kernel)) ggX1_setWind_X1_in
set_option maxRecDepth 20000 in
theorem ggX1_setWind_X1_goes : GoodIn wsX1_setWind wsX1_goes := goodIn_r _ [11, 12, 13, 14, 15, 16, 17, 18, 19, 20, 21, 22, 23, 24, 25, 26, 27, 28] (by decide +kernel) (by decide +kernel)
set_option maxRecDepth 20000 in
theorem gX1_setWind_X1_goes : GoodIn wsX1_setWind (wsV RX1 62 RX1 yX1_goes wsX1_goes) := goodIn_app (goodIn_of _ (by decide +kernel)) ggX1_setWind_X1_goes
theorem dX1_setWind_0 : decode cX1_setWind 0 = .ok (.aload_n 0, 1) := by decide +kernel
theorem dX1_setWind_1 : decode cX1_setWind 1 = .ok (.iload_n 1, 1) := by decide +kernel
theorem dX1_setWind_2 : decode cX1_setWind 2 = .ok (.ldc 77, 2) := by decide +kernel
theorem dX1_setWind_4 : decode cX1_setWind 4 = .ok (.ldc 58, 2) := by decide +kernel
theorem dX1_setWind_6 : decode cX1_setWind 6 = .ok (.invokestatic 51, 3) := by decide +kernel
theorem dX1_setWind_9 : decode cX1_setWind 9 = .ok (.iconst 1, 1) := by decide +kernel
theorem dX1_setWind_10 : decode cX1_setWind 10 = .ok (.iconst 1, 1) := by decide +kernel
theorem dX1_setWind_11 : decode cX1_setWind 11 = .ok (.invokevirtual 62, 3) := by decide +kernel
theorem dX1_setWind_14 : decode cX1_setWind 14 = .ok (.ifCond .ne 5, 3) := by decide +kernel
theorem dX1_setWind_17 : decode cX1_setWind 17 = .ok (.iconst 0, 1) := by decide +kernel
theorem dX1_setWind_18 : decode cX1_setWind 18 = .ok (.ireturn, 1) := by decide +kernel
theorem dX1_setWind_19 : decode cX1_setWind 19 = .ok (.aload_n 0, 1) := by decide +kernel
theorem dX1_setWind_20 : decode cX1_setWind 20 = .ok (.getfield 78, 3) := by decide +kernel
theorem dX1_setWind_23 : decode cX1_setWind 23 = .ok (.istore_n 2, 1) := by decide +kernel
theorem dX1_setWind_24 : decode cX1_setWind 24 = .ok (.aload_n 0, 1) := by decide +kernel
theorem dX1_setWind_25 : decode cX1_setWind 25 = .ok (.iload_n 1, 1) := by decide +kernel
theorem dX1_setWind_26 : decode cX1_setWind 26 = .ok (.putfield 78, 3) := by decide +kernel
theorem dX1_setWind_29 : decode cX1_setWind 29 = .ok (.iload_n 2, 1) := by decide +kernel
theorem dX1_setWind_30 : decode cX1_setWind 30 = .ok (.ireturn, 1) := by decide +kernel
set_option maxRecDepth 20000 in
theorem ggX1_setPassing_X1_isHour : GoodIn wsX1_setPassing wsX1_isHour := goodIn_r _ [7, 8, 9, 6, 10] (by decide +kernel) (by decide +kernel)
set_option maxRecDepth 20000 in
theorem gX1_setPassing_X1_isHour : GoodIn wsX1_setPassing (va_wsS RX1 74 yX1_isHour wsX1_isHour) := goodIn_app (goodIn_of _ (by decide +kernel)) ggX1_setPassing_X1_isHour
set_option maxRecDepth 20000 in
theorem ggX1_setPassing_X1_in : GoodIn wsX1_setPassing wsX1_in := goodIn_r _ [10] (by decide +kernel) (by decide +kernel)
set_option maxRecDepth 20000 in
theorem gX1_setPassing_X1_in : GoodIn wsX1_setPassing (va_wsS RX1 51 yX1_in wsX1_in) := goodIn_app (goodIn_of _ (by decide +kernel)) ggX1_setPassing_X1_in
set_option maxRecDepth 20000 in
theorem ggX1_setPassing_X1_goes : GoodIn wsX1_setPassing wsX1_goes := goodIn_r _ [14, 15, 16, 17, 18, 19, 20, 21, 22, 23, 24, 25, 26, 27, 28, 29, 30, 31] (by decide +kernel) (by decide +kernel)
set_option maxRecDepth 20000 in
theorem gX1_setPassing_X1_goes : GoodIn wsX1_setPassing (wsV RX1 62 RX1 yX1_goes wsX1_goes) := goodIn_app (goodIn_of _ (by decide +kernel)) ggX1_setPassing_X1_goes
theorem dX1_setPassing_0 : decode cX1_setPassing 0 = .ok (.aload_n 0, 1) := by decide +kernel
theorem dX1_setPassing_1 : decode cX1_setPassing 1 = .ok (.iload_n 1, 1) := by decide +kernel
theorem dX1_setPassing_2 : decode cX1_setPassing 2 = .ok (.invokestatic 74, 3) := by decide +kernel
theorem dX1_setPassing_5 : decode cX1_setPassing 5 = .ok (.iload_n 2, 1) := by decide +kernel
theorem dX1_setPassing_6 : decode cX1_setPassing 6 = .ok (.ldc 77, 2) := by decide +kernel
theorem dX1_setPassing_8 : decode cX1_setPassing 8 = .ok (.ldc 58, 2) := by decide +kernel
theorem dX1_setPassing_10 : decode cX1_setPassing 10 = .ok (.invokestatic 51, 3) := by decide +kernel
theorem dX1_setPassing_13 : decode cX1_setPassing 13 = .ok (.iconst 1, 1) := by decide +kernel
theorem dX1_setPassing_14 : decode cX1_setPassing 14 = .ok (.invokevirtual 62, 3) := by decide +kernel
theorem dX1_setPassing_17 : decode cX1_setPassing 17 = .ok (.ifCond .ne 5, 3) := by decide +kernel
theorem dX1_setPassing_20 : decode cX1_setPassing 20 = .ok (.iconst 0, 1) := by decide +kernel
theorem dX1_setPassing_21 : decode cX1_setPassing 21 = .ok (.ireturn, 1) := by decide +kernel
theorem dX1_setPassing_22 : decode cX1_setPassing 22 = .ok (.aload_n 0, 1) := by decide +kernel
theorem dX1_setPassing_23 : decode cX1_setPassing 23 = .ok (.getfield 41, 3) := by decide +kernel
theorem dX1_setPassing_26 : decode cX1_setPassing 26 = .ok (.iload_n 1, 1) := by decide +kernel
theorem dX1_setPassing_27 : decode cX1_setPassing 27 = .ok (.iaload, 1) := by decide +kernel
theorem dX1_setPassing_28 : decode cX1_setPassing 28 = .ok (.istore_n 3, 1) := by decide +kernel
theorem dX1_setPassing_29 : decode cX1_setPassing 29 = .ok (.aload_n 0, 1) := by decide +kernel
theorem dX1_setPassing_30 : decode cX1_setPassing 30 = .ok (.getfield 41, 3) := by decide +kernel
theorem dX1_setPassing_33 : decode cX1_setPassing 33 = .ok (.iload_n 1, 1) := by decide +kernel
theorem dX1_setPassing_34 : decode cX1_setPassing 34 = .ok (.iload_n 2, 1) := by decide +kernel
theorem dX1_setPassing_35 : decode cX1_setPassing 35 = .ok (.iastore, 1) := by decide +kernel
theorem dX1_setPassing_36 : decode cX1_setPassing 36 = .ok (.iload_n 3, 1) := by decide +kernel
theorem dX1_setPassing_37 : decode cX1_setPassing 37 = .ok (.ireturn, 1) := by decide +kernel
theorem dX1_away_0 : decode cX1_away 0 = .ok (.aload_n 0, 1) := by decide +kernel
theorem dX1_away_1 : decode cX1_away 1 = .ok (.getfield 7, 3) := by decide +kernel
theorem dX1_away_4 : decode cX1_away 4 = .ok (.aload_n 0, 1) := by decide +kernel
theorem dX1_away_5 : decode cX1_away 5 = .ok (.getfield 19, 3) := by decide +kernel
theorem dX1_away_8 : decode cX1_away 8 = .ok (.iload_n 1, 1) := by decide +kernel
theorem dX1_away_9 : decode cX1_away 9 = .ok (.iaload, 1) := by decide +kernel
theorem dX1_away_10 : decode cX1_away 10 = .ok (.iaload, 1) := by decide +kernel
theorem dX1_away_11 : decode cX1_away 11 = .ok (.aload_n 0, 1) := by decide +kernel
theorem dX1_away_12 : decode cX1_away 12 = .ok (.getfield 16, 3) := by decide +kernel
theorem dX1_away_15 : decode cX1_away 15 = .ok (.iload_n 1, 1) := by decide +kernel
theorem dX1_away_16 : decode cX1_away 16 = .ok (.iaload, 1) := by decide +kernel
theorem dX1_away_17 : decode cX1_away 17 = .ok (.isub, 1) := by decide +kernel
theorem dX1_away_18 : decode cX1_away 18 = .ok (.iload_n 2, 1) := by decide +kernel
theorem dX1_away_19 : decode cX1_away 19 = .ok (.isub, 1) := by decide +kernel
theorem dX1_away_20 : decode cX1_away 20 = .ok (.ireturn, 1) := by decide +kernel
set_option maxRecDepth 20000 in
theorem ggX1_lengthAt_X1_away : GoodIn wsX1_lengthAt wsX1_away := goodIn_r _ [7, 8, 9, 10, 14, 15, 16, 17, 18, 19, 20, 21, 22, 23, 24, 25, 26, 27, 28, 29] (by decide +kernel) (by decide +kernel)
set_option maxRecDepth 20000 in
theorem gX1_lengthAt_X1_away : GoodIn wsX1_lengthAt (wsV RX1 81 RX1 yX1_away wsX1_away) := goodIn_app (goodIn_of _ (by decide +kernel)) ggX1_lengthAt_X1_away
set_option maxRecDepth 20000 in
theorem ggX1_lengthAt_X1_root : GoodIn wsX1_lengthAt wsX1_root := goodIn_r _ [13] (by decide +kernel) (by decide +kernel)
set_option maxRecDepth 20000 in
theorem gX1_lengthAt_X1_root : GoodIn wsX1_lengthAt (va_wsS RX1 66 yX1_root wsX1_root) := goodIn_app (goodIn_of _ (by decide +kernel)) ggX1_lengthAt_X1_root
theorem dX1_lengthAt_0 : decode cX1_lengthAt 0 = .ok (.aload_n 0, 1) := by decide +kernel
theorem dX1_lengthAt_1 : decode cX1_lengthAt 1 = .ok (.iload_n 1, 1) := by decide +kernel
theorem dX1_lengthAt_2 : decode cX1_lengthAt 2 = .ok (.iload_n 3, 1) := by decide +kernel
theorem dX1_lengthAt_3 : decode cX1_lengthAt 3 = .ok (.invokevirtual 81, 3) := by decide +kernel
theorem dX1_lengthAt_6 : decode cX1_lengthAt 6 = .ok (.sipush 300, 3) := by decide +kernel
theorem dX1_lengthAt_9 : decode cX1_lengthAt 9 = .ok (.aload_n 0, 1) := by decide +kernel
theorem dX1_lengthAt_10 : decode cX1_lengthAt 10 = .ok (.getfield 35, 3) := by decide +kernel
theorem dX1_lengthAt_13 : decode cX1_lengthAt 13 = .ok (.iload_n 2, 1) := by decide +kernel
theorem dX1_lengthAt_14 : decode cX1_lengthAt 14 = .ok (.iaload, 1) := by decide +kernel
theorem dX1_lengthAt_15 : decode cX1_lengthAt 15 = .ok (.iadd, 1) := by decide +kernel
theorem dX1_lengthAt_16 : decode cX1_lengthAt 16 = .ok (.aload_n 0, 1) := by decide +kernel
theorem dX1_lengthAt_17 : decode cX1_lengthAt 17 = .ok (.getfield 38, 3) := by decide +kernel
theorem dX1_lengthAt_20 : decode cX1_lengthAt 20 = .ok (.iload_n 2, 1) := by decide +kernel
theorem dX1_lengthAt_21 : decode cX1_lengthAt 21 = .ok (.iaload, 1) := by decide +kernel
theorem dX1_lengthAt_22 : decode cX1_lengthAt 22 = .ok (.iadd, 1) := by decide +kernel
theorem dX1_lengthAt_23 : decode cX1_lengthAt 23 = .ok (.invokestatic 66, 3) := by decide +kernel
theorem dX1_lengthAt_26 : decode cX1_lengthAt 26 = .ok (.ireturn, 1) := by decide +kernel
set_option maxRecDepth 20000 in
theorem ggX1_tensionAt_X1_lengthAt : GoodIn wsX1_tensionAt wsX1_lengthAt := goodIn_r _ [8, 9, 10, 11, 12, 13, 7, 14, 15, 16, 17, 18, 19, 20, 21, 22, 23, 24, 25, 26, 27, 28, 29, 30, 31, 32, 33, 34, 35, 36] (by decide +kernel) (by decide +kernel)
set_option maxRecDepth 20000 in
theorem gX1_tensionAt_X1_lengthAt : GoodIn wsX1_tensionAt (wsV RX1 84 RX1 yX1_lengthAt wsX1_lengthAt) := goodIn_app (goodIn_of _ (by decide +kernel)) ggX1_tensionAt_X1_lengthAt
theorem dX1_tensionAt_0 : decode cX1_tensionAt 0 = .ok (.aload_n 0, 1) := by decide +kernel
theorem dX1_tensionAt_1 : decode cX1_tensionAt 1 = .ok (.iload_n 1, 1) := by decide +kernel
theorem dX1_tensionAt_2 : decode cX1_tensionAt 2 = .ok (.iload_n 2, 1) := by decide +kernel
theorem dX1_tensionAt_3 : decode cX1_tensionAt 3 = .ok (.iload_n 3, 1) := by decide +kernel
theorem dX1_tensionAt_4 : decode cX1_tensionAt 4 = .ok (.invokevirtual 84, 3) := by decide +kernel
theorem dX1_tensionAt_7 : decode cX1_tensionAt 7 = .ok (.aload_n 0, 1) := by decide +kernel
theorem dX1_tensionAt_8 : decode cX1_tensionAt 8 = .ok (.getfield 28, 3) := by decide +kernel
theorem dX1_tensionAt_11 : decode cX1_tensionAt 11 = .ok (.iload_n 1, 1) := by decide +kernel
theorem dX1_tensionAt_12 : decode cX1_tensionAt 12 = .ok (.iaload, 1) := by decide +kernel
theorem dX1_tensionAt_13 : decode cX1_tensionAt 13 = .ok (.isub, 1) := by decide +kernel
theorem dX1_tensionAt_14 : decode cX1_tensionAt 14 = .ok (.istore 4, 2) := by decide +kernel
theorem dX1_tensionAt_16 : decode cX1_tensionAt 16 = .ok (.aload_n 0, 1) := by decide +kernel
theorem dX1_tensionAt_17 : decode cX1_tensionAt 17 = .ok (.getfield 31, 3) := by decide +kernel
theorem dX1_tensionAt_20 : decode cX1_tensionAt 20 = .ok (.iload_n 1, 1) := by decide +kernel
theorem dX1_tensionAt_21 : decode cX1_tensionAt 21 = .ok (.baload, 1) := by decide +kernel
theorem dX1_tensionAt_22 : decode cX1_tensionAt 22 = .ok (.ifCond .ne 8, 3) := by decide +kernel
theorem dX1_tensionAt_25 : decode cX1_tensionAt 25 = .ok (.iload 4, 2) := by decide +kernel
theorem dX1_tensionAt_27 : decode cX1_tensionAt 27 = .ok (.ifCond .ge 7, 3) := by decide +kernel
theorem dX1_tensionAt_30 : decode cX1_tensionAt 30 = .ok (.iconst 0, 1) := by decide +kernel
theorem dX1_tensionAt_31 : decode cX1_tensionAt 31 = .ok (.goto 12, 3) := by decide +kernel
theorem dX1_tensionAt_34 : decode cX1_tensionAt 34 = .ok (.aload_n 0, 1) := by decide +kernel
theorem dX1_tensionAt_35 : decode cX1_tensionAt 35 = .ok (.getfield 22, 3) := by decide +kernel
theorem dX1_tensionAt_38 : decode cX1_tensionAt 38 = .ok (.iload_n 1, 1) := by decide +kernel
theorem dX1_tensionAt_39 : decode cX1_tensionAt 39 = .ok (.iaload, 1) := by decide +kernel
theorem dX1_tensionAt_40 : decode cX1_tensionAt 40 = .ok (.iload 4, 2) := by decide +kernel
theorem dX1_tensionAt_42 : decode cX1_tensionAt 42 = .ok (.imul, 1) := by decide +kernel
theorem dX1_tensionAt_43 : decode cX1_tensionAt 43 = .ok (.ireturn, 1) := by decide +kernel
set_option maxRecDepth 20000 in
theorem ggX1_forceAt_X1_lengthAt : GoodIn wsX1_forceAt wsX1_lengthAt := goodIn_r _ [8, 9, 10, 11, 12, 13, 7, 14, 15, 16, 17, 18, 19, 20, 28, 29, 30, 31, 32, 33, 34, 35, 36, 37, 38, 39, 40, 41, 42, 43] (by decide +kernel) (by decide +kernel)
set_option maxRecDepth 20000 in
theorem gX1_forceAt_X1_lengthAt : GoodIn wsX1_forceAt (wsV RX1 84 RX1 yX1_lengthAt wsX1_lengthAt) := goodIn_app (goodIn_of _ (by decide +kernel)) ggX1_forceAt_X1_lengthAt
set_option maxRecDepth 20000 in
theorem ggX1_forceAt_X1_tensionAt : GoodIn wsX1_forceAt wsX1_tensionAt := goodIn_r _ [24, 25, 26, 27, 4, 5, 6, 7, 8, 9, 10, 11, 12, 13, 14, 15, 16, 17, 18, 19, 20, 28, 29, 30, 31, 32, 33, 34, 35, 36, 37, 38, 39, 40, 41, 42, 43] (by decide +kernel) (by decide +kernel)
set_option maxRecDepth 20000 in
theorem gX1_forceAt_X1_tensionAt : GoodIn wsX1_forceAt (wsV RX1 88 RX1 yX1_tensionAt wsX1_tensionAt) := goodIn_app (goodIn_of _ (by decide +kernel)) ggX1_forceAt_X1_tensionAt
set_option maxRecDepth 20000 in
theorem ggX1_forceAt_X1_away : GoodIn wsX1_forceAt wsX1_away := goodIn_r _ [14, 15, 16, 17, 28, 29, 30, 31, 32, 33, 34, 35, 36, 37, 38, 39, 40, 41, 42, 43] (by decide +kernel) (by decide +kernel)
set_option maxRecDepth 20000 in
theorem gX1_forceAt_X1_away : GoodIn wsX1_forceAt (wsV RX1 81 RX1 yX1_away wsX1_away) := goodIn_app (goodIn_of _ (by decide +kernel)) ggX1_forceAt_X1_away
theorem dX1_forceAt_0 : decode cX1_forceAt 0 = .ok (.aload_n 0, 1) := by decide +kernel
theorem dX1_forceAt_1 : decode cX1_forceAt 1 = .ok (.getfield 78, 3) := by decide +kernel
theorem dX1_forceAt_4 : decode cX1_forceAt 4 = .ok (.aload_n 0, 1) := by decide +kernel
theorem dX1_forceAt_5 : decode cX1_forceAt 5 = .ok (.getfield 41, 3) := by decide +kernel
theorem dX1_forceAt_8 : decode cX1_forceAt 8 = .ok (.iload_n 1, 1) := by decide +kernel
theorem dX1_forceAt_9 : decode cX1_forceAt 9 = .ok (.iaload, 1) := by decide +kernel
theorem dX1_forceAt_10 : decode cX1_forceAt 10 = .ok (.iadd, 1) := by decide +kernel
theorem dX1_forceAt_11 : decode cX1_forceAt 11 = .ok (.istore_n 3, 1) := by decide +kernel
theorem dX1_forceAt_12 : decode cX1_forceAt 12 = .ok (.iconst 0, 1) := by decide +kernel
theorem dX1_forceAt_13 : decode cX1_forceAt 13 = .ok (.istore 4, 2) := by decide +kernel
theorem dX1_forceAt_15 : decode cX1_forceAt 15 = .ok (.iload 4, 2) := by decide +kernel
theorem dX1_forceAt_17 : decode cX1_forceAt 17 = .ok (.aload_n 0, 1) := by decide +kernel
theorem dX1_forceAt_18 : decode cX1_forceAt 18 = .ok (.getfield 55, 3) := by decide +kernel
theorem dX1_forceAt_21 : decode cX1_forceAt 21 = .ok (.if_icmp .ge 58, 3) := by decide +kernel
theorem dX1_forceAt_24 : decode cX1_forceAt 24 = .ok (.aload_n 0, 1) := by decide +kernel
theorem dX1_forceAt_25 : decode cX1_forceAt 25 = .ok (.iload 4, 2) := by decide +kernel
theorem dX1_forceAt_27 : decode cX1_forceAt 27 = .ok (.iload_n 1, 1) := by decide +kernel
theorem dX1_forceAt_28 : decode cX1_forceAt 28 = .ok (.iload_n 2, 1) := by decide +kernel
theorem dX1_forceAt_29 : decode cX1_forceAt 29 = .ok (.invokevirtual 84, 3) := by decide +kernel
theorem dX1_forceAt_32 : decode cX1_forceAt 32 = .ok (.istore 5, 2) := by decide +kernel
theorem dX1_forceAt_34 : decode cX1_forceAt 34 = .ok (.aload_n 0, 1) := by decide +kernel
theorem dX1_forceAt_35 : decode cX1_forceAt 35 = .ok (.iload 4, 2) := by decide +kernel
theorem dX1_forceAt_37 : decode cX1_forceAt 37 = .ok (.iload_n 1, 1) := by decide +kernel
theorem dX1_forceAt_38 : decode cX1_forceAt 38 = .ok (.iload_n 2, 1) := by decide +kernel
theorem dX1_forceAt_39 : decode cX1_forceAt 39 = .ok (.invokevirtual 88, 3) := by decide +kernel
theorem dX1_forceAt_42 : decode cX1_forceAt 42 = .ok (.i2l, 1) := by decide +kernel
theorem dX1_forceAt_43 : decode cX1_forceAt 43 = .ok (.aload_n 0, 1) := by decide +kernel
theorem dX1_forceAt_44 : decode cX1_forceAt 44 = .ok (.iload 4, 2) := by decide +kernel
theorem dX1_forceAt_46 : decode cX1_forceAt 46 = .ok (.iload_n 2, 1) := by decide +kernel
theorem dX1_forceAt_47 : decode cX1_forceAt 47 = .ok (.invokevirtual 81, 3) := by decide +kernel
theorem dX1_forceAt_50 : decode cX1_forceAt 50 = .ok (.i2l, 1) := by decide +kernel
theorem dX1_forceAt_51 : decode cX1_forceAt 51 = .ok (.lmul, 1) := by decide +kernel
theorem dX1_forceAt_52 : decode cX1_forceAt 52 = .ok (.lstore 6, 2) := by decide +kernel
theorem dX1_forceAt_54 : decode cX1_forceAt 54 = .ok (.iload_n 3, 1) := by decide +kernel
theorem dX1_forceAt_55 : decode cX1_forceAt 55 = .ok (.iload 5, 2) := by decide +kernel
theorem dX1_forceAt_57 : decode cX1_forceAt 57 = .ok (.ifCond .ne 7, 3) := by decide +kernel
theorem dX1_forceAt_60 : decode cX1_forceAt 60 = .ok (.iconst 0, 1) := by decide +kernel
theorem dX1_forceAt_61 : decode cX1_forceAt 61 = .ok (.goto 10, 3) := by decide +kernel
theorem dX1_forceAt_64 : decode cX1_forceAt 64 = .ok (.lload 6, 2) := by decide +kernel
theorem dX1_forceAt_66 : decode cX1_forceAt 66 = .ok (.iload 5, 2) := by decide +kernel
theorem dX1_forceAt_68 : decode cX1_forceAt 68 = .ok (.i2l, 1) := by decide +kernel
theorem dX1_forceAt_69 : decode cX1_forceAt 69 = .ok (.ldiv, 1) := by decide +kernel
theorem dX1_forceAt_70 : decode cX1_forceAt 70 = .ok (.l2i, 1) := by decide +kernel
theorem dX1_forceAt_71 : decode cX1_forceAt 71 = .ok (.iadd, 1) := by decide +kernel
theorem dX1_forceAt_72 : decode cX1_forceAt 72 = .ok (.istore_n 3, 1) := by decide +kernel
theorem dX1_forceAt_73 : decode cX1_forceAt 73 = .ok (.iinc 4 1, 3) := by decide +kernel
theorem dX1_forceAt_76 : decode cX1_forceAt 76 = .ok (.goto (-61), 3) := by decide +kernel
theorem dX1_forceAt_79 : decode cX1_forceAt 79 = .ok (.iload_n 3, 1) := by decide +kernel
theorem dX1_forceAt_80 : decode cX1_forceAt 80 = .ok (.ireturn, 1) := by decide +kernel
set_option maxRecDepth 20000 in
theorem ggX1_shiftAt_X1_forceAt : GoodIn wsX1_shiftAt wsX1_forceAt := goodIn_r _ [5, 6, 7, 8, 9, 10, 11, 4, 12, 13, 14, 15, 16, 17, 18, 19, 20, 21, 22, 23, 24, 25, 26, 27, 28, 29, 30, 31, 32, 33, 34, 35, 36, 37, 38, 39, 40, 41, 42, 43, 44, 45, 46, 47] (by decide +kernel) (by decide +kernel)
set_option maxRecDepth 20000 in
theorem gX1_shiftAt_X1_forceAt : GoodIn wsX1_shiftAt (wsV RX1 91 RX1 yX1_forceAt wsX1_forceAt) := goodIn_app (goodIn_of _ (by decide +kernel)) ggX1_shiftAt_X1_forceAt
theorem dX1_shiftAt_0 : decode cX1_shiftAt 0 = .ok (.sipush (-200), 3) := by decide +kernel
theorem dX1_shiftAt_3 : decode cX1_shiftAt 3 = .ok (.istore_n 2, 1) := by decide +kernel
theorem dX1_shiftAt_4 : decode cX1_shiftAt 4 = .ok (.sipush 200, 3) := by decide +kernel
theorem dX1_shiftAt_7 : decode cX1_shiftAt 7 = .ok (.istore_n 3, 1) := by decide +kernel
theorem dX1_shiftAt_8 : decode cX1_shiftAt 8 = .ok (.iload_n 2, 1) := by decide +kernel
theorem dX1_shiftAt_9 : decode cX1_shiftAt 9 = .ok (.iload_n 3, 1) := by decide +kernel
theorem dX1_shiftAt_10 : decode cX1_shiftAt 10 = .ok (.if_icmp .ge 42, 3) := by decide +kernel
theorem dX1_shiftAt_13 : decode cX1_shiftAt 13 = .ok (.iload_n 2, 1) := by decide +kernel
theorem dX1_shiftAt_14 : decode cX1_shiftAt 14 = .ok (.iload_n 3, 1) := by decide +kernel
theorem dX1_shiftAt_15 : decode cX1_shiftAt 15 = .ok (.iadd, 1) := by decide +kernel
theorem dX1_shiftAt_16 : decode cX1_shiftAt 16 = .ok (.sipush 400, 3) := by decide +kernel
theorem dX1_shiftAt_19 : decode cX1_shiftAt 19 = .ok (.iadd, 1) := by decide +kernel
theorem dX1_shiftAt_20 : decode cX1_shiftAt 20 = .ok (.iconst 2, 1) := by decide +kernel
theorem dX1_shiftAt_21 : decode cX1_shiftAt 21 = .ok (.idiv, 1) := by decide +kernel
theorem dX1_shiftAt_22 : decode cX1_shiftAt 22 = .ok (.sipush 200, 3) := by decide +kernel
theorem dX1_shiftAt_25 : decode cX1_shiftAt 25 = .ok (.isub, 1) := by decide +kernel
theorem dX1_shiftAt_26 : decode cX1_shiftAt 26 = .ok (.istore 4, 2) := by decide +kernel
theorem dX1_shiftAt_28 : decode cX1_shiftAt 28 = .ok (.aload_n 0, 1) := by decide +kernel
theorem dX1_shiftAt_29 : decode cX1_shiftAt 29 = .ok (.iload_n 1, 1) := by decide +kernel
theorem dX1_shiftAt_30 : decode cX1_shiftAt 30 = .ok (.iload 4, 2) := by decide +kernel
theorem dX1_shiftAt_32 : decode cX1_shiftAt 32 = .ok (.invokevirtual 91, 3) := by decide +kernel
theorem dX1_shiftAt_35 : decode cX1_shiftAt 35 = .ok (.ifCond .le 11, 3) := by decide +kernel
theorem dX1_shiftAt_38 : decode cX1_shiftAt 38 = .ok (.iload 4, 2) := by decide +kernel
theorem dX1_shiftAt_40 : decode cX1_shiftAt 40 = .ok (.iconst 1, 1) := by decide +kernel
theorem dX1_shiftAt_41 : decode cX1_shiftAt 41 = .ok (.iadd, 1) := by decide +kernel
theorem dX1_shiftAt_42 : decode cX1_shiftAt 42 = .ok (.istore_n 2, 1) := by decide +kernel
theorem dX1_shiftAt_43 : decode cX1_shiftAt 43 = .ok (.goto 6, 3) := by decide +kernel
theorem dX1_shiftAt_46 : decode cX1_shiftAt 46 = .ok (.iload 4, 2) := by decide +kernel
theorem dX1_shiftAt_48 : decode cX1_shiftAt 48 = .ok (.istore_n 3, 1) := by decide +kernel
theorem dX1_shiftAt_49 : decode cX1_shiftAt 49 = .ok (.goto (-41), 3) := by decide +kernel
theorem dX1_shiftAt_52 : decode cX1_shiftAt 52 = .ok (.iload_n 2, 1) := by decide +kernel
theorem dX1_shiftAt_53 : decode cX1_shiftAt 53 = .ok (.ireturn, 1) := by decide +kernel
set_option maxRecDepth 20000 in
theorem ggX1_drifts_X1_shiftAt : GoodIn wsX1_drifts wsX1_shiftAt := goodIn_r _ [5, 6, 7, 8, 4, 9, 10, 11, 12, 13, 14, 15, 16, 17, 18, 19, 20, 21, 22, 23, 24, 25, 26, 27, 28, 29, 30, 31, 32, 33, 34, 35, 36, 37, 38, 39, 40, 41, 42, 43, 44, 45, 46, 47, 48, 49, 50, 51] (by decide +kernel) (by decide +kernel)
set_option maxRecDepth 20000 in
theorem gX1_drifts_X1_shiftAt : GoodIn wsX1_drifts (wsV RX1 94 RX1 yX1_shiftAt wsX1_shiftAt) := goodIn_app (goodIn_of _ (by decide +kernel)) ggX1_drifts_X1_shiftAt
set_option maxRecDepth 20000 in
theorem ggX1_drifts_X1_forceAt : GoodIn wsX1_drifts wsX1_forceAt := goodIn_r _ [9, 10, 11, 12, 13, 14, 15, 4, 16, 17, 18, 19, 20, 21, 22, 23, 24, 25, 26, 27, 28, 29, 30, 31, 32, 33, 34, 35, 36, 37, 38, 39, 40, 41, 42, 43, 44, 45, 46, 47, 48, 49, 50, 51] (by decide +kernel) (by decide +kernel)
set_option maxRecDepth 20000 in
theorem gX1_drifts_X1_forceAt : GoodIn wsX1_drifts (wsV RX1 91 RX1 yX1_forceAt wsX1_forceAt) := goodIn_app (goodIn_of _ (by decide +kernel)) ggX1_drifts_X1_forceAt
theorem dX1_drifts_0 : decode cX1_drifts 0 = .ok (.aload_n 0, 1) := by decide +kernel
theorem dX1_drifts_1 : decode cX1_drifts 1 = .ok (.iload_n 1, 1) := by decide +kernel
theorem dX1_drifts_2 : decode cX1_drifts 2 = .ok (.invokevirtual 94, 3) := by decide +kernel
theorem dX1_drifts_5 : decode cX1_drifts 5 = .ok (.istore_n 2, 1) := by decide +kernel
theorem dX1_drifts_6 : decode cX1_drifts 6 = .ok (.aload_n 0, 1) := by decide +kernel
theorem dX1_drifts_7 : decode cX1_drifts 7 = .ok (.iload_n 1, 1) := by decide +kernel
theorem dX1_drifts_8 : decode cX1_drifts 8 = .ok (.iload_n 2, 1) := by decide +kernel
theorem dX1_drifts_9 : decode cX1_drifts 9 = .ok (.invokevirtual 91, 3) := by decide +kernel
theorem dX1_drifts_12 : decode cX1_drifts 12 = .ok (.istore_n 3, 1) := by decide +kernel
theorem dX1_drifts_13 : decode cX1_drifts 13 = .ok (.iload_n 2, 1) := by decide +kernel
theorem dX1_drifts_14 : decode cX1_drifts 14 = .ok (.sipush 200, 3) := by decide +kernel
theorem dX1_drifts_17 : decode cX1_drifts 17 = .ok (.if_icmp .ne 7, 3) := by decide +kernel
theorem dX1_drifts_20 : decode cX1_drifts 20 = .ok (.iload_n 3, 1) := by decide +kernel
theorem dX1_drifts_21 : decode cX1_drifts 21 = .ok (.ifCond .gt 14, 3) := by decide +kernel
theorem dX1_drifts_24 : decode cX1_drifts 24 = .ok (.iload_n 2, 1) := by decide +kernel
theorem dX1_drifts_25 : decode cX1_drifts 25 = .ok (.sipush (-200), 3) := by decide +kernel
theorem dX1_drifts_28 : decode cX1_drifts 28 = .ok (.if_icmp .ne 11, 3) := by decide +kernel
theorem dX1_drifts_31 : decode cX1_drifts 31 = .ok (.iload_n 3, 1) := by decide +kernel
theorem dX1_drifts_32 : decode cX1_drifts 32 = .ok (.ifCond .ge 7, 3) := by decide +kernel
theorem dX1_drifts_35 : decode cX1_drifts 35 = .ok (.iconst 1, 1) := by decide +kernel
theorem dX1_drifts_36 : decode cX1_drifts 36 = .ok (.goto 4, 3) := by decide +kernel
theorem dX1_drifts_39 : decode cX1_drifts 39 = .ok (.iconst 0, 1) := by decide +kernel
theorem dX1_drifts_40 : decode cX1_drifts 40 = .ok (.ireturn, 1) := by decide +kernel
set_option maxRecDepth 20000 in
theorem ggX1_force_X1_isHour : GoodIn wsX1_force wsX1_isHour := goodIn_r _ [4, 5, 6, 3, 7] (by decide +kernel) (by decide +kernel)
set_option maxRecDepth 20000 in
theorem gX1_force_X1_isHour : GoodIn wsX1_force (va_wsS RX1 74 yX1_isHour wsX1_isHour) := goodIn_app (goodIn_of _ (by decide +kernel)) ggX1_force_X1_isHour
set_option maxRecDepth 20000 in
theorem ggX1_force_X1_in : GoodIn wsX1_force wsX1_in := goodIn_r _ [7] (by decide +kernel) (by decide +kernel)
set_option maxRecDepth 20000 in
theorem gX1_force_X1_in : GoodIn wsX1_force (va_wsS RX1 51 yX1_in wsX1_in) := goodIn_app (goodIn_of _ (by decide +kernel)) ggX1_force_X1_in
set_option maxRecDepth 20000 in
theorem ggX1_force_X1_goes : GoodIn wsX1_force wsX1_goes := goodIn_r _ [11, 12, 43, 44, 45, 46, 47, 48, 49, 50, 51, 52, 53, 54, 55, 56, 57, 58] (by decide +kernel) (by decide +kernel)
set_option maxRecDepth 20000 in
theorem gX1_force_X1_goes : GoodIn wsX1_force (wsV RX1 62 RX1 yX1_goes wsX1_goes) := goodIn_app (goodIn_of _ (by decide +kernel)) ggX1_force_X1_goes
set_option maxRecDepth 20000 in
theorem ggX1_force_X1_forceAt : GoodIn wsX1_force wsX1_forceAt := goodIn_r _ [16, 17, 18, 19, 20, 21, 22, 3, 23, 24, 25, 26, 27, 28, 29, 30, 31, 32, 33, 34, 35, 36, 37, 38, 39, 40, 41, 42, 43, 44, 45, 46, 47, 48, 49, 50, 51, 52, 53, 54, 55, 56, 57, 58] (by decide +kernel) (by decide +kernel)
set_option maxRecDepth 20000 in
theorem gX1_force_X1_forceAt : GoodIn wsX1_force (wsV RX1 91 RX1 yX1_forceAt wsX1_forceAt) := goodIn_app (goodIn_of _ (by decide +kernel)) ggX1_force_X1_forceAt
theorem dX1_force_0 : decode cX1_force 0 = .ok (.aload_n 0, 1) := by decide +kernel
theorem dX1_force_1 : decode cX1_force 1 = .ok (.iload_n 1, 1) := by decide +kernel
theorem dX1_force_2 : decode cX1_force 2 = .ok (.invokestatic 74, 3) := by decide +kernel
theorem dX1_force_5 : decode cX1_force 5 = .ok (.iload_n 2, 1) := by decide +kernel
theorem dX1_force_6 : decode cX1_force 6 = .ok (.sipush (-200), 3) := by decide +kernel
theorem dX1_force_9 : decode cX1_force 9 = .ok (.sipush 200, 3) := by decide +kernel
theorem dX1_force_12 : decode cX1_force 12 = .ok (.invokestatic 51, 3) := by decide +kernel
theorem dX1_force_15 : decode cX1_force 15 = .ok (.iconst 1, 1) := by decide +kernel
theorem dX1_force_16 : decode cX1_force 16 = .ok (.invokevirtual 62, 3) := by decide +kernel
theorem dX1_force_19 : decode cX1_force 19 = .ok (.ifCond .eq 12, 3) := by decide +kernel
theorem dX1_force_22 : decode cX1_force 22 = .ok (.aload_n 0, 1) := by decide +kernel
theorem dX1_force_23 : decode cX1_force 23 = .ok (.iload_n 1, 1) := by decide +kernel
theorem dX1_force_24 : decode cX1_force 24 = .ok (.iload_n 2, 1) := by decide +kernel
theorem dX1_force_25 : decode cX1_force 25 = .ok (.invokevirtual 91, 3) := by decide +kernel
theorem dX1_force_28 : decode cX1_force 28 = .ok (.goto 4, 3) := by decide +kernel
theorem dX1_force_31 : decode cX1_force 31 = .ok (.iconst 0, 1) := by decide +kernel
theorem dX1_force_32 : decode cX1_force 32 = .ok (.ireturn, 1) := by decide +kernel
set_option maxRecDepth 20000 in
theorem ggX1_shift_X1_isHour : GoodIn wsX1_shift wsX1_isHour := goodIn_r _ [4, 5, 6, 3, 7] (by decide +kernel) (by decide +kernel)
set_option maxRecDepth 20000 in
theorem gX1_shift_X1_isHour : GoodIn wsX1_shift (va_wsS RX1 74 yX1_isHour wsX1_isHour) := goodIn_app (goodIn_of _ (by decide +kernel)) ggX1_shift_X1_isHour
set_option maxRecDepth 20000 in
theorem ggX1_shift_X1_goes : GoodIn wsX1_shift wsX1_goes := goodIn_r _ [11, 12, 47, 48, 49, 50, 51, 52, 53, 54, 55, 56, 57, 58, 59, 60, 61, 62] (by decide +kernel) (by decide +kernel)
set_option maxRecDepth 20000 in
theorem gX1_shift_X1_goes : GoodIn wsX1_shift (wsV RX1 62 RX1 yX1_goes wsX1_goes) := goodIn_app (goodIn_of _ (by decide +kernel)) ggX1_shift_X1_goes
set_option maxRecDepth 20000 in
theorem ggX1_shift_X1_shiftAt : GoodIn wsX1_shift wsX1_shiftAt := goodIn_r _ [16, 17, 18, 19, 3, 20, 21, 22, 23, 24, 25, 26, 27, 28, 29, 30, 31, 32, 33, 34, 35, 36, 37, 38, 39, 40, 41, 42, 43, 44, 45, 46, 47, 48, 49, 50, 51, 52, 53, 54, 55, 56, 57, 58, 59, 60, 61, 62] (by decide +kernel) (by decide +kernel)
set_option maxRecDepth 20000 in
theorem gX1_shift_X1_shiftAt : GoodIn wsX1_shift (wsV RX1 94 RX1 yX1_shiftAt wsX1_shiftAt) := goodIn_app (goodIn_of _ (by decide +kernel)) ggX1_shift_X1_shiftAt
theorem dX1_shift_0 : decode cX1_shift 0 = .ok (.aload_n 0, 1) := by decide +kernel
theorem dX1_shift_1 : decode cX1_shift 1 = .ok (.iload_n 1, 1) := by decide +kernel
theorem dX1_shift_2 : decode cX1_shift 2 = .ok (.invokestatic 74, 3) := by decide +kernel
theorem dX1_shift_5 : decode cX1_shift 5 = .ok (.iconst 1, 1) := by decide +kernel
theorem dX1_shift_6 : decode cX1_shift 6 = .ok (.iconst 1, 1) := by decide +kernel
theorem dX1_shift_7 : decode cX1_shift 7 = .ok (.invokevirtual 62, 3) := by decide +kernel
theorem dX1_shift_10 : decode cX1_shift 10 = .ok (.ifCond .eq 11, 3) := by decide +kernel
theorem dX1_shift_13 : decode cX1_shift 13 = .ok (.aload_n 0, 1) := by decide +kernel
theorem dX1_shift_14 : decode cX1_shift 14 = .ok (.iload_n 1, 1) := by decide +kernel
theorem dX1_shift_15 : decode cX1_shift 15 = .ok (.invokevirtual 94, 3) := by decide +kernel
theorem dX1_shift_18 : decode cX1_shift 18 = .ok (.goto 4, 3) := by decide +kernel
theorem dX1_shift_21 : decode cX1_shift 21 = .ok (.iconst 0, 1) := by decide +kernel
theorem dX1_shift_22 : decode cX1_shift 22 = .ok (.ireturn, 1) := by decide +kernel
set_option maxRecDepth 20000 in
theorem ggX1_isAdrift_X1_isHour : GoodIn wsX1_isAdrift wsX1_isHour := goodIn_r _ [4, 5, 6, 3, 7] (by decide +kernel) (by decide +kernel)
set_option maxRecDepth 20000 in
theorem gX1_isAdrift_X1_isHour : GoodIn wsX1_isAdrift (va_wsS RX1 74 yX1_isHour wsX1_isHour) := goodIn_app (goodIn_of _ (by decide +kernel)) ggX1_isAdrift_X1_isHour
set_option maxRecDepth 20000 in
theorem ggX1_isAdrift_X1_goes : GoodIn wsX1_isAdrift wsX1_goes := goodIn_r _ [11, 12, 51, 52, 53, 54, 55, 56, 57, 58, 59, 60, 61, 62, 63, 64, 65, 66] (by decide +kernel) (by decide +kernel)
set_option maxRecDepth 20000 in
theorem gX1_isAdrift_X1_goes : GoodIn wsX1_isAdrift (wsV RX1 62 RX1 yX1_goes wsX1_goes) := goodIn_app (goodIn_of _ (by decide +kernel)) ggX1_isAdrift_X1_goes
set_option maxRecDepth 20000 in
theorem ggX1_isAdrift_X1_drifts : GoodIn wsX1_isAdrift wsX1_drifts := goodIn_r _ [16, 17, 18, 19, 3, 20, 21, 22, 23, 24, 25, 26, 27, 28, 29, 30, 31, 32, 33, 34, 35, 36, 37, 38, 39, 40, 41, 42, 43, 44, 45, 46, 47, 48, 49, 50, 51, 52, 53, 54, 55, 56, 57, 58, 59, 60, 61, 62, 63, 64, 65, 66] (by decide +kernel) (by decide +kernel)
set_option maxRecDepth 20000 in
theorem gX1_isAdrift_X1_drifts : GoodIn wsX1_isAdrift (wsV RX1 98 RX1 yX1_drifts wsX1_drifts) := goodIn_app (goodIn_of _ (by decide +kernel)) ggX1_isAdrift_X1_drifts
theorem dX1_isAdrift_0 : decode cX1_isAdrift 0 = .ok (.aload_n 0, 1) := by decide +kernel
theorem dX1_isAdrift_1 : decode cX1_isAdrift 1 = .ok (.iload_n 1, 1) := by decide +kernel
theorem dX1_isAdrift_2 : decode cX1_isAdrift 2 = .ok (.invokestatic 74, 3) := by decide +kernel
theorem dX1_isAdrift_5 : decode cX1_isAdrift 5 = .ok (.iconst 1, 1) := by decide +kernel
theorem dX1_isAdrift_6 : decode cX1_isAdrift 6 = .ok (.iconst 1, 1) := by decide +kernel
theorem dX1_isAdrift_7 : decode cX1_isAdrift 7 = .ok (.invokevirtual 62, 3) := by decide +kernel
theorem dX1_isAdrift_10 : decode cX1_isAdrift 10 = .ok (.ifCond .eq 15, 3) := by decide +kernel
theorem dX1_isAdrift_13 : decode cX1_isAdrift 13 = .ok (.aload_n 0, 1) := by decide +kernel
theorem dX1_isAdrift_14 : decode cX1_isAdrift 14 = .ok (.iload_n 1, 1) := by decide +kernel
theorem dX1_isAdrift_15 : decode cX1_isAdrift 15 = .ok (.invokevirtual 98, 3) := by decide +kernel
theorem dX1_isAdrift_18 : decode cX1_isAdrift 18 = .ok (.ifCond .eq 7, 3) := by decide +kernel
theorem dX1_isAdrift_21 : decode cX1_isAdrift 21 = .ok (.iconst 1, 1) := by decide +kernel
theorem dX1_isAdrift_22 : decode cX1_isAdrift 22 = .ok (.goto 4, 3) := by decide +kernel
theorem dX1_isAdrift_25 : decode cX1_isAdrift 25 = .ok (.iconst 0, 1) := by decide +kernel
theorem dX1_isAdrift_26 : decode cX1_isAdrift 26 = .ok (.ireturn, 1) := by decide +kernel
set_option maxRecDepth 20000 in
theorem ggX1_length_X1_isLine : GoodIn wsX1_length wsX1_isLine := goodIn_r _ [5, 6, 7, 8, 4, 9, 51, 52, 53, 54, 55, 56, 57, 58, 59, 60, 61, 62, 63, 64, 65, 66] (by decide +kernel) (by decide +kernel)
set_option maxRecDepth 20000 in
theorem gX1_length_X1_isLine : GoodIn wsX1_length (wsV RX1 70 RX1 yX1_isLine wsX1_isLine) := goodIn_app (goodIn_of _ (by decide +kernel)) ggX1_length_X1_isLine
set_option maxRecDepth 20000 in
theorem ggX1_length_X1_isHour : GoodIn wsX1_length wsX1_isHour := goodIn_r _ [12, 7, 8, 4, 9] (by decide +kernel) (by decide +kernel)
