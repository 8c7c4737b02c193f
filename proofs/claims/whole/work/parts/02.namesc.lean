theorem dX0_init_0 : decode cX0_init 0 = .ok (.aload_n 0, 1) := by decide +kernel
theorem dX0_init_1 : decode cX0_init 1 = .ok (.invokespecial 3, 3) := by decide +kernel
theorem dX0_init_4 : decode cX0_init 4 = .ok (.aload_n 0, 1) := by decide +kernel
theorem dX0_init_5 : decode cX0_init 5 = .ok (.bipush 16, 2) := by decide +kernel
theorem dX0_init_7 : decode cX0_init 7 = .ok (.newarray .int, 2) := by decide +kernel
theorem dX0_init_9 : decode cX0_init 9 = .ok (.putfield 9, 3) := by decide +kernel
theorem dX0_init_12 : decode cX0_init 12 = .ok (.aload_n 0, 1) := by decide +kernel
theorem dX0_init_13 : decode cX0_init 13 = .ok (.bipush 16, 2) := by decide +kernel
theorem dX0_init_15 : decode cX0_init 15 = .ok (.newarray .int, 2) := by decide +kernel
theorem dX0_init_17 : decode cX0_init 17 = .ok (.putfield 15, 3) := by decide +kernel
theorem dX0_init_20 : decode cX0_init 20 = .ok (.aload_n 0, 1) := by decide +kernel
theorem dX0_init_21 : decode cX0_init 21 = .ok (.iconst 0, 1) := by decide +kernel
theorem dX0_init_22 : decode cX0_init 22 = .ok (.putfield 18, 3) := by decide +kernel
theorem dX0_init_25 : decode cX0_init 25 = .ok (.return_, 1) := by decide +kernel
theorem dX0_size_0 : decode cX0_size 0 = .ok (.aload_n 0, 1) := by decide +kernel
theorem dX0_size_1 : decode cX0_size 1 = .ok (.getfield 18, 3) := by decide +kernel
theorem dX0_size_4 : decode cX0_size 4 = .ok (.ireturn, 1) := by decide +kernel
set_option maxRecDepth 20000 in
theorem ggX0_has_X6_isBetween : GoodIn wsX0_has wsX6_isBetween := goodIn_r _ [4] (by decide +kernel) (by decide +kernel)
set_option maxRecDepth 20000 in
theorem gX0_has_X6_isBetween_n22 : GoodIn wsX0_has (wsX6_isBetween) := ggX0_has_X6_isBetween
theorem dX0_has_0 : decode cX0_has 0 = .ok (.iload_n 1, 1) := by decide +kernel
theorem dX0_has_1 : decode cX0_has 1 = .ok (.iconst 0, 1) := by decide +kernel
theorem dX0_has_2 : decode cX0_has 2 = .ok (.aload_n 0, 1) := by decide +kernel
theorem dX0_has_3 : decode cX0_has 3 = .ok (.getfield 18, 3) := by decide +kernel
theorem dX0_has_6 : decode cX0_has 6 = .ok (.iconst 1, 1) := by decide +kernel
theorem dX0_has_7 : decode cX0_has 7 = .ok (.isub, 1) := by decide +kernel
theorem dX0_has_8 : decode cX0_has 8 = .ok (.invokestatic 22, 3) := by decide +kernel
theorem dX0_has_11 : decode cX0_has 11 = .ok (.ireturn, 1) := by decide +kernel
theorem dX0_add_0 : decode cX0_add 0 = .ok (.aload_n 0, 1) := by decide +kernel
theorem dX0_add_1 : decode cX0_add 1 = .ok (.getfield 9, 3) := by decide +kernel
theorem dX0_add_4 : decode cX0_add 4 = .ok (.aload_n 0, 1) := by decide +kernel
theorem dX0_add_5 : decode cX0_add 5 = .ok (.getfield 18, 3) := by decide +kernel
theorem dX0_add_8 : decode cX0_add 8 = .ok (.iload_n 1, 1) := by decide +kernel
theorem dX0_add_9 : decode cX0_add 9 = .ok (.iastore, 1) := by decide +kernel
theorem dX0_add_10 : decode cX0_add 10 = .ok (.aload_n 0, 1) := by decide +kernel
theorem dX0_add_11 : decode cX0_add 11 = .ok (.getfield 15, 3) := by decide +kernel
theorem dX0_add_14 : decode cX0_add 14 = .ok (.aload_n 0, 1) := by decide +kernel
theorem dX0_add_15 : decode cX0_add 15 = .ok (.getfield 18, 3) := by decide +kernel
theorem dX0_add_18 : decode cX0_add 18 = .ok (.iload_n 2, 1) := by decide +kernel
theorem dX0_add_19 : decode cX0_add 19 = .ok (.iastore, 1) := by decide +kernel
theorem dX0_add_20 : decode cX0_add 20 = .ok (.aload_n 0, 1) := by decide +kernel
theorem dX0_add_21 : decode cX0_add 21 = .ok (.dup, 1) := by decide +kernel
theorem dX0_add_22 : decode cX0_add 22 = .ok (.getfield 18, 3) := by decide +kernel
theorem dX0_add_25 : decode cX0_add 25 = .ok (.iconst 1, 1) := by decide +kernel
theorem dX0_add_26 : decode cX0_add 26 = .ok (.iadd, 1) := by decide +kernel
theorem dX0_add_27 : decode cX0_add 27 = .ok (.putfield 18, 3) := by decide +kernel
theorem dX0_add_30 : decode cX0_add 30 = .ok (.aload_n 0, 1) := by decide +kernel
theorem dX0_add_31 : decode cX0_add 31 = .ok (.getfield 18, 3) := by decide +kernel
theorem dX0_add_34 : decode cX0_add 34 = .ok (.iconst 1, 1) := by decide +kernel
theorem dX0_add_35 : decode cX0_add 35 = .ok (.isub, 1) := by decide +kernel
theorem dX0_add_36 : decode cX0_add 36 = .ok (.ireturn, 1) := by decide +kernel
theorem dX0_kindOf_0 : decode cX0_kindOf 0 = .ok (.aload_n 0, 1) := by decide +kernel
theorem dX0_kindOf_1 : decode cX0_kindOf 1 = .ok (.getfield 9, 3) := by decide +kernel
theorem dX0_kindOf_4 : decode cX0_kindOf 4 = .ok (.iload_n 1, 1) := by decide +kernel
theorem dX0_kindOf_5 : decode cX0_kindOf 5 = .ok (.iaload, 1) := by decide +kernel
theorem dX0_kindOf_6 : decode cX0_kindOf 6 = .ok (.ireturn, 1) := by decide +kernel
theorem dX0_toleranceOf_0 : decode cX0_toleranceOf 0 = .ok (.aload_n 0, 1) := by decide +kernel
theorem dX0_toleranceOf_1 : decode cX0_toleranceOf 1 = .ok (.getfield 15, 3) := by decide +kernel
theorem dX0_toleranceOf_4 : decode cX0_toleranceOf 4 = .ok (.iload_n 1, 1) := by decide +kernel
theorem dX0_toleranceOf_5 : decode cX0_toleranceOf 5 = .ok (.iaload, 1) := by decide +kernel
theorem dX0_toleranceOf_6 : decode cX0_toleranceOf 6 = .ok (.ireturn, 1) := by decide +kernel
theorem dX0_isOf_0 : decode cX0_isOf 0 = .ok (.aload_n 0, 1) := by decide +kernel
theorem dX0_isOf_1 : decode cX0_isOf 1 = .ok (.getfield 9, 3) := by decide +kernel
theorem dX0_isOf_4 : decode cX0_isOf 4 = .ok (.iload_n 1, 1) := by decide +kernel
theorem dX0_isOf_5 : decode cX0_isOf 5 = .ok (.iaload, 1) := by decide +kernel
theorem dX0_isOf_6 : decode cX0_isOf 6 = .ok (.iload_n 2, 1) := by decide +kernel
theorem dX0_isOf_7 : decode cX0_isOf 7 = .ok (.if_icmp .eq 18, 3) := by decide +kernel
theorem dX0_isOf_10 : decode cX0_isOf 10 = .ok (.aload_n 0, 1) := by decide +kernel
theorem dX0_isOf_11 : decode cX0_isOf 11 = .ok (.getfield 9, 3) := by decide +kernel
theorem dX0_isOf_14 : decode cX0_isOf 14 = .ok (.iload_n 1, 1) := by decide +kernel
theorem dX0_isOf_15 : decode cX0_isOf 15 = .ok (.iaload, 1) := by decide +kernel
theorem dX0_isOf_16 : decode cX0_isOf 16 = .ok (.iconst 3, 1) := by decide +kernel
theorem dX0_isOf_17 : decode cX0_isOf 17 = .ok (.if_icmp .ne 12, 3) := by decide +kernel
theorem dX0_isOf_20 : decode cX0_isOf 20 = .ok (.iload_n 2, 1) := by decide +kernel
theorem dX0_isOf_21 : decode cX0_isOf 21 = .ok (.iconst 2, 1) := by decide +kernel
theorem dX0_isOf_22 : decode cX0_isOf 22 = .ok (.if_icmp .ne 7, 3) := by decide +kernel
theorem dX0_isOf_25 : decode cX0_isOf 25 = .ok (.iconst 1, 1) := by decide +kernel
theorem dX0_isOf_26 : decode cX0_isOf 26 = .ok (.goto 4, 3) := by decide +kernel
theorem dX0_isOf_29 : decode cX0_isOf 29 = .ok (.iconst 0, 1) := by decide +kernel
theorem dX0_isOf_30 : decode cX0_isOf 30 = .ok (.ireturn, 1) := by decide +kernel
theorem dX1_init_0 : decode cX1_init 0 = .ok (.aload_n 0, 1) := by decide +kernel
theorem dX1_init_1 : decode cX1_init 1 = .ok (.invokespecial 3, 3) := by decide +kernel
theorem dX1_init_4 : decode cX1_init 4 = .ok (.aload_n 0, 1) := by decide +kernel
theorem dX1_init_5 : decode cX1_init 5 = .ok (.bipush 40, 2) := by decide +kernel
theorem dX1_init_7 : decode cX1_init 7 = .ok (.bipush 8, 2) := by decide +kernel
theorem dX1_init_9 : decode cX1_init 9 = .ok (.multianewarray 11 2, 4) := by decide +kernel
theorem dX1_init_13 : decode cX1_init 13 = .ok (.putfield 13, 3) := by decide +kernel
theorem dX1_init_16 : decode cX1_init 16 = .ok (.aload_n 0, 1) := by decide +kernel
theorem dX1_init_17 : decode cX1_init 17 = .ok (.iconst 0, 1) := by decide +kernel
theorem dX1_init_18 : decode cX1_init 18 = .ok (.putfield 16, 3) := by decide +kernel
theorem dX1_init_21 : decode cX1_init 21 = .ok (.return_, 1) := by decide +kernel
theorem dX1_size_0 : decode cX1_size 0 = .ok (.aload_n 0, 1) := by decide +kernel
theorem dX1_size_1 : decode cX1_size 1 = .ok (.getfield 16, 3) := by decide +kernel
theorem dX1_size_4 : decode cX1_size 4 = .ok (.ireturn, 1) := by decide +kernel
set_option maxRecDepth 20000 in
theorem ggX1_has_X6_isBetween : GoodIn wsX1_has wsX6_isBetween := goodIn_r _ [4] (by decide +kernel) (by decide +kernel)
set_option maxRecDepth 20000 in
theorem gX1_has_X6_isBetween_n20 : GoodIn wsX1_has (wsX6_isBetween) := ggX1_has_X6_isBetween
theorem dX1_has_0 : decode cX1_has 0 = .ok (.iload_n 1, 1) := by decide +kernel
theorem dX1_has_1 : decode cX1_has 1 = .ok (.iconst 0, 1) := by decide +kernel
theorem dX1_has_2 : decode cX1_has 2 = .ok (.aload_n 0, 1) := by decide +kernel
theorem dX1_has_3 : decode cX1_has 3 = .ok (.getfield 16, 3) := by decide +kernel
theorem dX1_has_6 : decode cX1_has 6 = .ok (.iconst 1, 1) := by decide +kernel
theorem dX1_has_7 : decode cX1_has 7 = .ok (.isub, 1) := by decide +kernel
theorem dX1_has_8 : decode cX1_has 8 = .ok (.invokestatic 20, 3) := by decide +kernel
theorem dX1_has_11 : decode cX1_has 11 = .ok (.ireturn, 1) := by decide +kernel
theorem dX1_fact_0 : decode cX1_fact 0 = .ok (.aload_n 0, 1) := by decide +kernel
theorem dX1_fact_1 : decode cX1_fact 1 = .ok (.getfield 13, 3) := by decide +kernel
theorem dX1_fact_4 : decode cX1_fact 4 = .ok (.iload_n 1, 1) := by decide +kernel
theorem dX1_fact_5 : decode cX1_fact 5 = .ok (.aaload, 1) := by decide +kernel
theorem dX1_fact_6 : decode cX1_fact 6 = .ok (.iload_n 2, 1) := by decide +kernel
theorem dX1_fact_7 : decode cX1_fact 7 = .ok (.iaload, 1) := by decide +kernel
theorem dX1_fact_8 : decode cX1_fact 8 = .ok (.ireturn, 1) := by decide +kernel
theorem dX1_add_0 : decode cX1_add 0 = .ok (.aload_n 0, 1) := by decide +kernel
theorem dX1_add_1 : decode cX1_add 1 = .ok (.getfield 13, 3) := by decide +kernel
theorem dX1_add_4 : decode cX1_add 4 = .ok (.aload_n 0, 1) := by decide +kernel
theorem dX1_add_5 : decode cX1_add 5 = .ok (.getfield 16, 3) := by decide +kernel
theorem dX1_add_8 : decode cX1_add 8 = .ok (.aaload, 1) := by decide +kernel
theorem dX1_add_9 : decode cX1_add 9 = .ok (.astore 8, 2) := by decide +kernel
theorem dX1_add_11 : decode cX1_add 11 = .ok (.aload 8, 2) := by decide +kernel
theorem dX1_add_13 : decode cX1_add 13 = .ok (.iconst 0, 1) := by decide +kernel
theorem dX1_add_14 : decode cX1_add 14 = .ok (.iload_n 1, 1) := by decide +kernel
theorem dX1_add_15 : decode cX1_add 15 = .ok (.iastore, 1) := by decide +kernel
theorem dX1_add_16 : decode cX1_add 16 = .ok (.aload 8, 2) := by decide +kernel
theorem dX1_add_18 : decode cX1_add 18 = .ok (.iconst 1, 1) := by decide +kernel
theorem dX1_add_19 : decode cX1_add 19 = .ok (.iload_n 2, 1) := by decide +kernel
theorem dX1_add_20 : decode cX1_add 20 = .ok (.iastore, 1) := by decide +kernel
theorem dX1_add_21 : decode cX1_add 21 = .ok (.aload 8, 2) := by decide +kernel
theorem dX1_add_23 : decode cX1_add 23 = .ok (.iconst 2, 1) := by decide +kernel
theorem dX1_add_24 : decode cX1_add 24 = .ok (.iload_n 3, 1) := by decide +kernel
theorem dX1_add_25 : decode cX1_add 25 = .ok (.iastore, 1) := by decide +kernel
theorem dX1_add_26 : decode cX1_add 26 = .ok (.aload 8, 2) := by decide +kernel
theorem dX1_add_28 : decode cX1_add 28 = .ok (.iconst 3, 1) := by decide +kernel
theorem dX1_add_29 : decode cX1_add 29 = .ok (.iload 4, 2) := by decide +kernel
theorem dX1_add_31 : decode cX1_add 31 = .ok (.iastore, 1) := by decide +kernel
theorem dX1_add_32 : decode cX1_add 32 = .ok (.aload 8, 2) := by decide +kernel
theorem dX1_add_34 : decode cX1_add 34 = .ok (.iconst 4, 1) := by decide +kernel
theorem dX1_add_35 : decode cX1_add 35 = .ok (.iload 6, 2) := by decide +kernel
theorem dX1_add_37 : decode cX1_add 37 = .ok (.iastore, 1) := by decide +kernel
theorem dX1_add_38 : decode cX1_add 38 = .ok (.aload 8, 2) := by decide +kernel
theorem dX1_add_40 : decode cX1_add 40 = .ok (.iconst 5, 1) := by decide +kernel
theorem dX1_add_41 : decode cX1_add 41 = .ok (.iconst 0, 1) := by decide +kernel
theorem dX1_add_42 : decode cX1_add 42 = .ok (.iastore, 1) := by decide +kernel
theorem dX1_add_43 : decode cX1_add 43 = .ok (.aload 8, 2) := by decide +kernel
theorem dX1_add_45 : decode cX1_add 45 = .ok (.bipush 6, 2) := by decide +kernel
theorem dX1_add_47 : decode cX1_add 47 = .ok (.iload 7, 2) := by decide +kernel
theorem dX1_add_49 : decode cX1_add 49 = .ok (.iastore, 1) := by decide +kernel
theorem dX1_add_50 : decode cX1_add 50 = .ok (.aload 8, 2) := by decide +kernel
theorem dX1_add_52 : decode cX1_add 52 = .ok (.bipush 7, 2) := by decide +kernel
theorem dX1_add_54 : decode cX1_add 54 = .ok (.iload 5, 2) := by decide +kernel
theorem dX1_add_56 : decode cX1_add 56 = .ok (.iastore, 1) := by decide +kernel
theorem dX1_add_57 : decode cX1_add 57 = .ok (.aload_n 0, 1) := by decide +kernel
theorem dX1_add_58 : decode cX1_add 58 = .ok (.dup, 1) := by decide +kernel
theorem dX1_add_59 : decode cX1_add 59 = .ok (.getfield 16, 3) := by decide +kernel
theorem dX1_add_62 : decode cX1_add 62 = .ok (.iconst 1, 1) := by decide +kernel
theorem dX1_add_63 : decode cX1_add 63 = .ok (.iadd, 1) := by decide +kernel
theorem dX1_add_64 : decode cX1_add 64 = .ok (.putfield 16, 3) := by decide +kernel
theorem dX1_add_67 : decode cX1_add 67 = .ok (.aload_n 0, 1) := by decide +kernel
theorem dX1_add_68 : decode cX1_add 68 = .ok (.getfield 16, 3) := by decide +kernel
theorem dX1_add_71 : decode cX1_add 71 = .ok (.iconst 1, 1) := by decide +kernel
theorem dX1_add_72 : decode cX1_add 72 = .ok (.isub, 1) := by decide +kernel
theorem dX1_add_73 : decode cX1_add 73 = .ok (.ireturn, 1) := by decide +kernel
theorem dX1_lastUntil_0 : decode cX1_lastUntil 0 = .ok (.iload_n 3, 1) := by decide +kernel
theorem dX1_lastUntil_1 : decode cX1_lastUntil 1 = .ok (.aload_n 0, 1) := by decide +kernel
theorem dX1_lastUntil_2 : decode cX1_lastUntil 2 = .ok (.getfield 16, 3) := by decide +kernel
theorem dX1_lastUntil_5 : decode cX1_lastUntil 5 = .ok (.invokestatic 24, 3) := by decide +kernel
theorem dX1_lastUntil_8 : decode cX1_lastUntil 8 = .ok (.iconst 1, 1) := by decide +kernel
theorem dX1_lastUntil_9 : decode cX1_lastUntil 9 = .ok (.isub, 1) := by decide +kernel
theorem dX1_lastUntil_10 : decode cX1_lastUntil 10 = .ok (.istore 4, 2) := by decide +kernel
theorem dX1_lastUntil_12 : decode cX1_lastUntil 12 = .ok (.iload 4, 2) := by decide +kernel
theorem dX1_lastUntil_14 : decode cX1_lastUntil 14 = .ok (.ifCond .lt 50, 3) := by decide +kernel
theorem dX1_lastUntil_17 : decode cX1_lastUntil 17 = .ok (.aload_n 0, 1) := by decide +kernel
theorem dX1_lastUntil_18 : decode cX1_lastUntil 18 = .ok (.getfield 13, 3) := by decide +kernel
theorem dX1_lastUntil_21 : decode cX1_lastUntil 21 = .ok (.iload 4, 2) := by decide +kernel
theorem dX1_lastUntil_23 : decode cX1_lastUntil 23 = .ok (.aaload, 1) := by decide +kernel
theorem dX1_lastUntil_24 : decode cX1_lastUntil 24 = .ok (.iconst 0, 1) := by decide +kernel
theorem dX1_lastUntil_25 : decode cX1_lastUntil 25 = .ok (.iaload, 1) := by decide +kernel
theorem dX1_lastUntil_26 : decode cX1_lastUntil 26 = .ok (.iload_n 1, 1) := by decide +kernel
theorem dX1_lastUntil_27 : decode cX1_lastUntil 27 = .ok (.if_icmp .ne 31, 3) := by decide +kernel
theorem dX1_lastUntil_30 : decode cX1_lastUntil 30 = .ok (.aload_n 0, 1) := by decide +kernel
theorem dX1_lastUntil_31 : decode cX1_lastUntil 31 = .ok (.getfield 13, 3) := by decide +kernel
theorem dX1_lastUntil_34 : decode cX1_lastUntil 34 = .ok (.iload 4, 2) := by decide +kernel
theorem dX1_lastUntil_36 : decode cX1_lastUntil 36 = .ok (.aaload, 1) := by decide +kernel
theorem dX1_lastUntil_37 : decode cX1_lastUntil 37 = .ok (.iconst 5, 1) := by decide +kernel
theorem dX1_lastUntil_38 : decode cX1_lastUntil 38 = .ok (.iaload, 1) := by decide +kernel
theorem dX1_lastUntil_39 : decode cX1_lastUntil 39 = .ok (.ifCond .ne 19, 3) := by decide +kernel
theorem dX1_lastUntil_42 : decode cX1_lastUntil 42 = .ok (.aload_n 0, 1) := by decide +kernel
theorem dX1_lastUntil_43 : decode cX1_lastUntil 43 = .ok (.getfield 13, 3) := by decide +kernel
theorem dX1_lastUntil_46 : decode cX1_lastUntil 46 = .ok (.iload 4, 2) := by decide +kernel
theorem dX1_lastUntil_48 : decode cX1_lastUntil 48 = .ok (.aaload, 1) := by decide +kernel
theorem dX1_lastUntil_49 : decode cX1_lastUntil 49 = .ok (.iconst 3, 1) := by decide +kernel
theorem dX1_lastUntil_50 : decode cX1_lastUntil 50 = .ok (.iaload, 1) := by decide +kernel
theorem dX1_lastUntil_51 : decode cX1_lastUntil 51 = .ok (.iload_n 2, 1) := by decide +kernel
theorem dX1_lastUntil_52 : decode cX1_lastUntil 52 = .ok (.if_icmp .gt 6, 3) := by decide +kernel
theorem dX1_lastUntil_55 : decode cX1_lastUntil 55 = .ok (.iload 4, 2) := by decide +kernel
theorem dX1_lastUntil_57 : decode cX1_lastUntil 57 = .ok (.ireturn, 1) := by decide +kernel
theorem dX1_lastUntil_58 : decode cX1_lastUntil 58 = .ok (.iinc 4 (-1), 3) := by decide +kernel
theorem dX1_lastUntil_61 : decode cX1_lastUntil 61 = .ok (.goto (-49), 3) := by decide +kernel
theorem dX1_lastUntil_64 : decode cX1_lastUntil 64 = .ok (.bipush (-9), 2) := by decide +kernel
theorem dX1_lastUntil_66 : decode cX1_lastUntil 66 = .ok (.ireturn, 1) := by decide +kernel
set_option maxRecDepth 20000 in
theorem ggX1_latestOf_X1_lastUntil : GoodIn wsX1_latestOf wsX1_lastUntil := goodIn_r _ [7, 2, 8, 9, 10, 11, 12, 13, 14] (by decide +kernel) (by decide +kernel)
set_option maxRecDepth 20000 in
theorem gX1_latestOf_X1_lastUntil : GoodIn wsX1_latestOf (wsV RX1 31 RX1 yX1_lastUntil wsX1_lastUntil) := goodIn_app (goodIn_of _ (by decide +kernel)) ggX1_latestOf_X1_lastUntil
theorem dX1_latestOf_0 : decode cX1_latestOf 0 = .ok (.aload_n 0, 1) := by decide +kernel
theorem dX1_latestOf_1 : decode cX1_latestOf 1 = .ok (.iload_n 1, 1) := by decide +kernel
theorem dX1_latestOf_2 : decode cX1_latestOf 2 = .ok (.ldc 30, 2) := by decide +kernel
theorem dX1_latestOf_4 : decode cX1_latestOf 4 = .ok (.aload_n 0, 1) := by decide +kernel
theorem dX1_latestOf_5 : decode cX1_latestOf 5 = .ok (.getfield 16, 3) := by decide +kernel
theorem dX1_latestOf_8 : decode cX1_latestOf 8 = .ok (.invokevirtual 31, 3) := by decide +kernel
theorem dX1_latestOf_11 : decode cX1_latestOf 11 = .ok (.ireturn, 1) := by decide +kernel
theorem dX1_countOf_0 : decode cX1_countOf 0 = .ok (.iconst 0, 1) := by decide +kernel
theorem dX1_countOf_1 : decode cX1_countOf 1 = .ok (.istore 4, 2) := by decide +kernel
theorem dX1_countOf_3 : decode cX1_countOf 3 = .ok (.iconst 0, 1) := by decide +kernel
theorem dX1_countOf_4 : decode cX1_countOf 4 = .ok (.istore 5, 2) := by decide +kernel
theorem dX1_countOf_6 : decode cX1_countOf 6 = .ok (.iload 5, 2) := by decide +kernel
theorem dX1_countOf_8 : decode cX1_countOf 8 = .ok (.aload_n 0, 1) := by decide +kernel
theorem dX1_countOf_9 : decode cX1_countOf 9 = .ok (.getfield 16, 3) := by decide +kernel
theorem dX1_countOf_12 : decode cX1_countOf 12 = .ok (.if_icmp .ge 42, 3) := by decide +kernel
theorem dX1_countOf_15 : decode cX1_countOf 15 = .ok (.aload_n 0, 1) := by decide +kernel
theorem dX1_countOf_16 : decode cX1_countOf 16 = .ok (.getfield 13, 3) := by decide +kernel
theorem dX1_countOf_19 : decode cX1_countOf 19 = .ok (.iload 5, 2) := by decide +kernel
theorem dX1_countOf_21 : decode cX1_countOf 21 = .ok (.aaload, 1) := by decide +kernel
theorem dX1_countOf_22 : decode cX1_countOf 22 = .ok (.iload_n 1, 1) := by decide +kernel
theorem dX1_countOf_23 : decode cX1_countOf 23 = .ok (.iaload, 1) := by decide +kernel
theorem dX1_countOf_24 : decode cX1_countOf 24 = .ok (.iload_n 2, 1) := by decide +kernel
theorem dX1_countOf_25 : decode cX1_countOf 25 = .ok (.if_icmp .ne 23, 3) := by decide +kernel
theorem dX1_countOf_28 : decode cX1_countOf 28 = .ok (.iload_n 3, 1) := by decide +kernel
theorem dX1_countOf_29 : decode cX1_countOf 29 = .ok (.ifCond .eq 16, 3) := by decide +kernel
theorem dX1_countOf_32 : decode cX1_countOf 32 = .ok (.aload_n 0, 1) := by decide +kernel
theorem dX1_countOf_33 : decode cX1_countOf 33 = .ok (.getfield 13, 3) := by decide +kernel
theorem dX1_countOf_36 : decode cX1_countOf 36 = .ok (.iload 5, 2) := by decide +kernel
theorem dX1_countOf_38 : decode cX1_countOf 38 = .ok (.aaload, 1) := by decide +kernel
theorem dX1_countOf_39 : decode cX1_countOf 39 = .ok (.iconst 5, 1) := by decide +kernel
theorem dX1_countOf_40 : decode cX1_countOf 40 = .ok (.iaload, 1) := by decide +kernel
theorem dX1_countOf_41 : decode cX1_countOf 41 = .ok (.iconst 1, 1) := by decide +kernel
theorem dX1_countOf_42 : decode cX1_countOf 42 = .ok (.if_icmp .eq 6, 3) := by decide +kernel
theorem dX1_countOf_45 : decode cX1_countOf 45 = .ok (.iinc 4 1, 3) := by decide +kernel
theorem dX1_countOf_48 : decode cX1_countOf 48 = .ok (.iinc 5 1, 3) := by decide +kernel
theorem dX1_countOf_51 : decode cX1_countOf 51 = .ok (.goto (-45), 3) := by decide +kernel
theorem dX1_countOf_54 : decode cX1_countOf 54 = .ok (.iload 4, 2) := by decide +kernel
theorem dX1_countOf_56 : decode cX1_countOf 56 = .ok (.ireturn, 1) := by decide +kernel
theorem dX1_rise_0 : decode cX1_rise 0 = .ok (.aload_n 0, 1) := by decide +kernel
theorem dX1_rise_1 : decode cX1_rise 1 = .ok (.getfield 13, 3) := by decide +kernel
theorem dX1_rise_4 : decode cX1_rise 4 = .ok (.iload_n 3, 1) := by decide +kernel
theorem dX1_rise_5 : decode cX1_rise 5 = .ok (.aaload, 1) := by decide +kernel
theorem dX1_rise_6 : decode cX1_rise 6 = .ok (.iload_n 1, 1) := by decide +kernel
theorem dX1_rise_7 : decode cX1_rise 7 = .ok (.iaload, 1) := by decide +kernel
theorem dX1_rise_8 : decode cX1_rise 8 = .ok (.aload_n 0, 1) := by decide +kernel
theorem dX1_rise_9 : decode cX1_rise 9 = .ok (.getfield 13, 3) := by decide +kernel
theorem dX1_rise_12 : decode cX1_rise 12 = .ok (.iload_n 2, 1) := by decide +kernel
theorem dX1_rise_13 : decode cX1_rise 13 = .ok (.aaload, 1) := by decide +kernel
theorem dX1_rise_14 : decode cX1_rise 14 = .ok (.iload_n 1, 1) := by decide +kernel
theorem dX1_rise_15 : decode cX1_rise 15 = .ok (.iaload, 1) := by decide +kernel
theorem dX1_rise_16 : decode cX1_rise 16 = .ok (.isub, 1) := by decide +kernel
theorem dX1_rise_17 : decode cX1_rise 17 = .ok (.ireturn, 1) := by decide +kernel
set_option maxRecDepth 20000 in
theorem ggX1_makeVoid_X6_isBetween : GoodIn wsX1_makeVoid wsX6_isBetween := goodIn_r _ [5] (by decide +kernel) (by decide +kernel)
set_option maxRecDepth 20000 in
theorem gX1_makeVoid_X6_isBetween_n20 : GoodIn wsX1_makeVoid (wsX6_isBetween) := ggX1_makeVoid_X6_isBetween
set_option maxRecDepth 20000 in
theorem ggX1_makeVoid_X1_restsOnVoid : GoodIn wsX1_makeVoid wsX1_restsOnVoid := goodIn_r _ [10, 2, 11, 12, 13, 9, 14, 1, 3, 4, 5, 15, 16] (by decide +kernel) (by decide +kernel)
set_option maxRecDepth 20000 in
theorem gX1_makeVoid_X1_restsOnVoid : GoodIn wsX1_makeVoid (wsV RX1 35 RX1 yX1_restsOnVoid wsX1_restsOnVoid) := goodIn_app (goodIn_of _ (by decide +kernel)) ggX1_makeVoid_X1_restsOnVoid
theorem dX1_makeVoid_0 : decode cX1_makeVoid 0 = .ok (.iconst 0, 1) := by decide +kernel
theorem dX1_makeVoid_1 : decode cX1_makeVoid 1 = .ok (.istore 4, 2) := by decide +kernel
theorem dX1_makeVoid_3 : decode cX1_makeVoid 3 = .ok (.iconst 0, 1) := by decide +kernel
theorem dX1_makeVoid_4 : decode cX1_makeVoid 4 = .ok (.istore 5, 2) := by decide +kernel
theorem dX1_makeVoid_6 : decode cX1_makeVoid 6 = .ok (.iload 5, 2) := by decide +kernel
theorem dX1_makeVoid_8 : decode cX1_makeVoid 8 = .ok (.aload_n 0, 1) := by decide +kernel
theorem dX1_makeVoid_9 : decode cX1_makeVoid 9 = .ok (.getfield 16, 3) := by decide +kernel
theorem dX1_makeVoid_12 : decode cX1_makeVoid 12 = .ok (.if_icmp .ge 85, 3) := by decide +kernel
theorem dX1_makeVoid_15 : decode cX1_makeVoid 15 = .ok (.aload_n 0, 1) := by decide +kernel
theorem dX1_makeVoid_16 : decode cX1_makeVoid 16 = .ok (.getfield 13, 3) := by decide +kernel
theorem dX1_makeVoid_19 : decode cX1_makeVoid 19 = .ok (.iload 5, 2) := by decide +kernel
theorem dX1_makeVoid_21 : decode cX1_makeVoid 21 = .ok (.aaload, 1) := by decide +kernel
theorem dX1_makeVoid_22 : decode cX1_makeVoid 22 = .ok (.iconst 2, 1) := by decide +kernel
theorem dX1_makeVoid_23 : decode cX1_makeVoid 23 = .ok (.iaload, 1) := by decide +kernel
theorem dX1_makeVoid_24 : decode cX1_makeVoid 24 = .ok (.iload_n 1, 1) := by decide +kernel
theorem dX1_makeVoid_25 : decode cX1_makeVoid 25 = .ok (.if_icmp .ne 24, 3) := by decide +kernel
theorem dX1_makeVoid_28 : decode cX1_makeVoid 28 = .ok (.aload_n 0, 1) := by decide +kernel
theorem dX1_makeVoid_29 : decode cX1_makeVoid 29 = .ok (.getfield 13, 3) := by decide +kernel
theorem dX1_makeVoid_32 : decode cX1_makeVoid 32 = .ok (.iload 5, 2) := by decide +kernel
theorem dX1_makeVoid_34 : decode cX1_makeVoid 34 = .ok (.aaload, 1) := by decide +kernel
theorem dX1_makeVoid_35 : decode cX1_makeVoid 35 = .ok (.iconst 3, 1) := by decide +kernel
theorem dX1_makeVoid_36 : decode cX1_makeVoid 36 = .ok (.iaload, 1) := by decide +kernel
theorem dX1_makeVoid_37 : decode cX1_makeVoid 37 = .ok (.iload_n 2, 1) := by decide +kernel
theorem dX1_makeVoid_38 : decode cX1_makeVoid 38 = .ok (.iload_n 3, 1) := by decide +kernel
theorem dX1_makeVoid_39 : decode cX1_makeVoid 39 = .ok (.invokestatic 20, 3) := by decide +kernel
theorem dX1_makeVoid_42 : decode cX1_makeVoid 42 = .ok (.ifCond .eq 7, 3) := by decide +kernel
theorem dX1_makeVoid_45 : decode cX1_makeVoid 45 = .ok (.iconst 1, 1) := by decide +kernel
theorem dX1_makeVoid_46 : decode cX1_makeVoid 46 = .ok (.goto 4, 3) := by decide +kernel
theorem dX1_makeVoid_49 : decode cX1_makeVoid 49 = .ok (.iconst 0, 1) := by decide +kernel
theorem dX1_makeVoid_50 : decode cX1_makeVoid 50 = .ok (.istore 6, 2) := by decide +kernel
theorem dX1_makeVoid_52 : decode cX1_makeVoid 52 = .ok (.aload_n 0, 1) := by decide +kernel
theorem dX1_makeVoid_53 : decode cX1_makeVoid 53 = .ok (.getfield 13, 3) := by decide +kernel
theorem dX1_makeVoid_56 : decode cX1_makeVoid 56 = .ok (.iload 5, 2) := by decide +kernel
theorem dX1_makeVoid_58 : decode cX1_makeVoid 58 = .ok (.aaload, 1) := by decide +kernel
theorem dX1_makeVoid_59 : decode cX1_makeVoid 59 = .ok (.iconst 5, 1) := by decide +kernel
theorem dX1_makeVoid_60 : decode cX1_makeVoid 60 = .ok (.iaload, 1) := by decide +kernel
theorem dX1_makeVoid_61 : decode cX1_makeVoid 61 = .ok (.ifCond .ne 30, 3) := by decide +kernel
theorem dX1_makeVoid_64 : decode cX1_makeVoid 64 = .ok (.iload 6, 2) := by decide +kernel
theorem dX1_makeVoid_66 : decode cX1_makeVoid 66 = .ok (.ifCond .ne 12, 3) := by decide +kernel
theorem dX1_makeVoid_69 : decode cX1_makeVoid 69 = .ok (.aload_n 0, 1) := by decide +kernel
theorem dX1_makeVoid_70 : decode cX1_makeVoid 70 = .ok (.iload 5, 2) := by decide +kernel
theorem dX1_makeVoid_72 : decode cX1_makeVoid 72 = .ok (.invokevirtual 35, 3) := by decide +kernel
theorem dX1_makeVoid_75 : decode cX1_makeVoid 75 = .ok (.ifCond .eq 16, 3) := by decide +kernel
theorem dX1_makeVoid_78 : decode cX1_makeVoid 78 = .ok (.aload_n 0, 1) := by decide +kernel
theorem dX1_makeVoid_79 : decode cX1_makeVoid 79 = .ok (.getfield 13, 3) := by decide +kernel
theorem dX1_makeVoid_82 : decode cX1_makeVoid 82 = .ok (.iload 5, 2) := by decide +kernel
theorem dX1_makeVoid_84 : decode cX1_makeVoid 84 = .ok (.aaload, 1) := by decide +kernel
theorem dX1_makeVoid_85 : decode cX1_makeVoid 85 = .ok (.iconst 5, 1) := by decide +kernel
theorem dX1_makeVoid_86 : decode cX1_makeVoid 86 = .ok (.iconst 1, 1) := by decide +kernel
theorem dX1_makeVoid_87 : decode cX1_makeVoid 87 = .ok (.iastore, 1) := by decide +kernel
theorem dX1_makeVoid_88 : decode cX1_makeVoid 88 = .ok (.iinc 4 1, 3) := by decide +kernel
theorem dX1_makeVoid_91 : decode cX1_makeVoid 91 = .ok (.iinc 5 1, 3) := by decide +kernel
theorem dX1_makeVoid_94 : decode cX1_makeVoid 94 = .ok (.goto (-88), 3) := by decide +kernel
theorem dX1_makeVoid_97 : decode cX1_makeVoid 97 = .ok (.iload 4, 2) := by decide +kernel
theorem dX1_makeVoid_99 : decode cX1_makeVoid 99 = .ok (.ireturn, 1) := by decide +kernel
set_option maxRecDepth 20000 in
theorem ggX1_restsOnVoid_X1_has : GoodIn wsX1_restsOnVoid wsX1_has := goodIn_r _ [6, 7, 8, 9, 10, 11, 12] (by decide +kernel) (by decide +kernel)
set_option maxRecDepth 20000 in
theorem gX1_restsOnVoid_X1_has : GoodIn wsX1_restsOnVoid (wsV RX1 39 RX1 yX1_has wsX1_has) := goodIn_app (goodIn_of _ (by decide +kernel)) ggX1_restsOnVoid_X1_has
theorem dX1_restsOnVoid_0 : decode cX1_restsOnVoid 0 = .ok (.aload_n 0, 1) := by decide +kernel
theorem dX1_restsOnVoid_1 : decode cX1_restsOnVoid 1 = .ok (.getfield 13, 3) := by decide +kernel
theorem dX1_restsOnVoid_4 : decode cX1_restsOnVoid 4 = .ok (.iload_n 1, 1) := by decide +kernel
theorem dX1_restsOnVoid_5 : decode cX1_restsOnVoid 5 = .ok (.aaload, 1) := by decide +kernel
theorem dX1_restsOnVoid_6 : decode cX1_restsOnVoid 6 = .ok (.bipush 6, 2) := by decide +kernel
theorem dX1_restsOnVoid_8 : decode cX1_restsOnVoid 8 = .ok (.iaload, 1) := by decide +kernel
theorem dX1_restsOnVoid_9 : decode cX1_restsOnVoid 9 = .ok (.istore_n 2, 1) := by decide +kernel
theorem dX1_restsOnVoid_10 : decode cX1_restsOnVoid 10 = .ok (.aload_n 0, 1) := by decide +kernel
theorem dX1_restsOnVoid_11 : decode cX1_restsOnVoid 11 = .ok (.iload_n 2, 1) := by decide +kernel
theorem dX1_restsOnVoid_12 : decode cX1_restsOnVoid 12 = .ok (.invokevirtual 39, 3) := by decide +kernel
theorem dX1_restsOnVoid_15 : decode cX1_restsOnVoid 15 = .ok (.ifCond .eq 19, 3) := by decide +kernel
theorem dX1_restsOnVoid_18 : decode cX1_restsOnVoid 18 = .ok (.aload_n 0, 1) := by decide +kernel
theorem dX1_restsOnVoid_19 : decode cX1_restsOnVoid 19 = .ok (.getfield 13, 3) := by decide +kernel
theorem dX1_restsOnVoid_22 : decode cX1_restsOnVoid 22 = .ok (.iload_n 2, 1) := by decide +kernel
theorem dX1_restsOnVoid_23 : decode cX1_restsOnVoid 23 = .ok (.aaload, 1) := by decide +kernel
theorem dX1_restsOnVoid_24 : decode cX1_restsOnVoid 24 = .ok (.iconst 5, 1) := by decide +kernel
theorem dX1_restsOnVoid_25 : decode cX1_restsOnVoid 25 = .ok (.iaload, 1) := by decide +kernel
theorem dX1_restsOnVoid_26 : decode cX1_restsOnVoid 26 = .ok (.iconst 1, 1) := by decide +kernel
theorem dX1_restsOnVoid_27 : decode cX1_restsOnVoid 27 = .ok (.if_icmp .ne 7, 3) := by decide +kernel
theorem dX1_restsOnVoid_30 : decode cX1_restsOnVoid 30 = .ok (.iconst 1, 1) := by decide +kernel
theorem dX1_restsOnVoid_31 : decode cX1_restsOnVoid 31 = .ok (.goto 4, 3) := by decide +kernel
theorem dX1_restsOnVoid_34 : decode cX1_restsOnVoid 34 = .ok (.iconst 0, 1) := by decide +kernel
theorem dX1_restsOnVoid_35 : decode cX1_restsOnVoid 35 = .ok (.ireturn, 1) := by decide +kernel
set_option maxRecDepth 20000 in
theorem ggX1_chainLength_X1_has : GoodIn wsX1_chainLength wsX1_has := goodIn_r _ [6, 7, 8, 9, 10, 11, 12] (by decide +kernel) (by decide +kernel)
set_option maxRecDepth 20000 in
theorem gX1_chainLength_X1_has : GoodIn wsX1_chainLength (wsV RX1 39 RX1 yX1_has wsX1_has) := goodIn_app (goodIn_of _ (by decide +kernel)) ggX1_chainLength_X1_has
theorem dX1_chainLength_0 : decode cX1_chainLength 0 = .ok (.iconst 0, 1) := by decide +kernel
theorem dX1_chainLength_1 : decode cX1_chainLength 1 = .ok (.istore_n 2, 1) := by decide +kernel
theorem dX1_chainLength_2 : decode cX1_chainLength 2 = .ok (.iload_n 1, 1) := by decide +kernel
theorem dX1_chainLength_3 : decode cX1_chainLength 3 = .ok (.istore_n 3, 1) := by decide +kernel
theorem dX1_chainLength_4 : decode cX1_chainLength 4 = .ok (.iconst 0, 1) := by decide +kernel
theorem dX1_chainLength_5 : decode cX1_chainLength 5 = .ok (.istore 4, 2) := by decide +kernel
theorem dX1_chainLength_7 : decode cX1_chainLength 7 = .ok (.iload 4, 2) := by decide +kernel
theorem dX1_chainLength_9 : decode cX1_chainLength 9 = .ok (.bipush 40, 2) := by decide +kernel
theorem dX1_chainLength_11 : decode cX1_chainLength 11 = .ok (.if_icmp .ge 30, 3) := by decide +kernel
theorem dX1_chainLength_14 : decode cX1_chainLength 14 = .ok (.aload_n 0, 1) := by decide +kernel
theorem dX1_chainLength_15 : decode cX1_chainLength 15 = .ok (.iload_n 3, 1) := by decide +kernel
theorem dX1_chainLength_16 : decode cX1_chainLength 16 = .ok (.invokevirtual 39, 3) := by decide +kernel
theorem dX1_chainLength_19 : decode cX1_chainLength 19 = .ok (.ifCond .eq 22, 3) := by decide +kernel
theorem dX1_chainLength_22 : decode cX1_chainLength 22 = .ok (.iinc 2 1, 3) := by decide +kernel
theorem dX1_chainLength_25 : decode cX1_chainLength 25 = .ok (.aload_n 0, 1) := by decide +kernel
theorem dX1_chainLength_26 : decode cX1_chainLength 26 = .ok (.getfield 13, 3) := by decide +kernel
theorem dX1_chainLength_29 : decode cX1_chainLength 29 = .ok (.iload_n 3, 1) := by decide +kernel
theorem dX1_chainLength_30 : decode cX1_chainLength 30 = .ok (.aaload, 1) := by decide +kernel
theorem dX1_chainLength_31 : decode cX1_chainLength 31 = .ok (.bipush 6, 2) := by decide +kernel
theorem dX1_chainLength_33 : decode cX1_chainLength 33 = .ok (.iaload, 1) := by decide +kernel
theorem dX1_chainLength_34 : decode cX1_chainLength 34 = .ok (.istore_n 3, 1) := by decide +kernel
theorem dX1_chainLength_35 : decode cX1_chainLength 35 = .ok (.iinc 4 1, 3) := by decide +kernel
theorem dX1_chainLength_38 : decode cX1_chainLength 38 = .ok (.goto (-31), 3) := by decide +kernel
theorem dX1_chainLength_41 : decode cX1_chainLength 41 = .ok (.iload_n 2, 1) := by decide +kernel
theorem dX1_chainLength_42 : decode cX1_chainLength 42 = .ok (.ireturn, 1) := by decide +kernel
set_option maxRecDepth 20000 in
theorem ggX1_squaredEnds_X1_has : GoodIn wsX1_squaredEnds wsX1_has := goodIn_r _ [6, 7, 8, 9, 10, 11, 12] (by decide +kernel) (by decide +kernel)
set_option maxRecDepth 20000 in
theorem gX1_squaredEnds_X1_has : GoodIn wsX1_squaredEnds (wsV RX1 39 RX1 yX1_has wsX1_has) := goodIn_app (goodIn_of _ (by decide +kernel)) ggX1_squaredEnds_X1_has
theorem dX1_squaredEnds_0 : decode cX1_squaredEnds 0 = .ok (.lconst 0, 1) := by decide +kernel
theorem dX1_squaredEnds_1 : decode cX1_squaredEnds 1 = .ok (.lstore_n 2, 1) := by decide +kernel
theorem dX1_squaredEnds_2 : decode cX1_squaredEnds 2 = .ok (.iload_n 1, 1) := by decide +kernel
theorem dX1_squaredEnds_3 : decode cX1_squaredEnds 3 = .ok (.istore 4, 2) := by decide +kernel
theorem dX1_squaredEnds_5 : decode cX1_squaredEnds 5 = .ok (.iconst 0, 1) := by decide +kernel
theorem dX1_squaredEnds_6 : decode cX1_squaredEnds 6 = .ok (.istore 5, 2) := by decide +kernel
theorem dX1_squaredEnds_8 : decode cX1_squaredEnds 8 = .ok (.iload 5, 2) := by decide +kernel
theorem dX1_squaredEnds_10 : decode cX1_squaredEnds 10 = .ok (.bipush 40, 2) := by decide +kernel
theorem dX1_squaredEnds_12 : decode cX1_squaredEnds 12 = .ok (.if_icmp .ge 50, 3) := by decide +kernel
theorem dX1_squaredEnds_15 : decode cX1_squaredEnds 15 = .ok (.aload_n 0, 1) := by decide +kernel
theorem dX1_squaredEnds_16 : decode cX1_squaredEnds 16 = .ok (.iload 4, 2) := by decide +kernel
theorem dX1_squaredEnds_18 : decode cX1_squaredEnds 18 = .ok (.invokevirtual 39, 3) := by decide +kernel
theorem dX1_squaredEnds_21 : decode cX1_squaredEnds 21 = .ok (.ifCond .eq 41, 3) := by decide +kernel
theorem dX1_squaredEnds_24 : decode cX1_squaredEnds 24 = .ok (.aload_n 0, 1) := by decide +kernel
theorem dX1_squaredEnds_25 : decode cX1_squaredEnds 25 = .ok (.getfield 13, 3) := by decide +kernel
theorem dX1_squaredEnds_28 : decode cX1_squaredEnds 28 = .ok (.iload 4, 2) := by decide +kernel
theorem dX1_squaredEnds_30 : decode cX1_squaredEnds 30 = .ok (.aaload, 1) := by decide +kernel
theorem dX1_squaredEnds_31 : decode cX1_squaredEnds 31 = .ok (.iconst 4, 1) := by decide +kernel
theorem dX1_squaredEnds_32 : decode cX1_squaredEnds 32 = .ok (.iaload, 1) := by decide +kernel
theorem dX1_squaredEnds_33 : decode cX1_squaredEnds 33 = .ok (.i2l, 1) := by decide +kernel
theorem dX1_squaredEnds_34 : decode cX1_squaredEnds 34 = .ok (.lstore 6, 2) := by decide +kernel
theorem dX1_squaredEnds_36 : decode cX1_squaredEnds 36 = .ok (.lload_n 2, 1) := by decide +kernel
theorem dX1_squaredEnds_37 : decode cX1_squaredEnds 37 = .ok (.lload 6, 2) := by decide +kernel
theorem dX1_squaredEnds_39 : decode cX1_squaredEnds 39 = .ok (.lload 6, 2) := by decide +kernel
theorem dX1_squaredEnds_41 : decode cX1_squaredEnds 41 = .ok (.lmul, 1) := by decide +kernel
theorem dX1_squaredEnds_42 : decode cX1_squaredEnds 42 = .ok (.ladd, 1) := by decide +kernel
theorem dX1_squaredEnds_43 : decode cX1_squaredEnds 43 = .ok (.lstore_n 2, 1) := by decide +kernel
theorem dX1_squaredEnds_44 : decode cX1_squaredEnds 44 = .ok (.aload_n 0, 1) := by decide +kernel
theorem dX1_squaredEnds_45 : decode cX1_squaredEnds 45 = .ok (.getfield 13, 3) := by decide +kernel
theorem dX1_squaredEnds_48 : decode cX1_squaredEnds 48 = .ok (.iload 4, 2) := by decide +kernel
theorem dX1_squaredEnds_50 : decode cX1_squaredEnds 50 = .ok (.aaload, 1) := by decide +kernel
theorem dX1_squaredEnds_51 : decode cX1_squaredEnds 51 = .ok (.bipush 6, 2) := by decide +kernel
theorem dX1_squaredEnds_53 : decode cX1_squaredEnds 53 = .ok (.iaload, 1) := by decide +kernel
theorem dX1_squaredEnds_54 : decode cX1_squaredEnds 54 = .ok (.istore 4, 2) := by decide +kernel
theorem dX1_squaredEnds_56 : decode cX1_squaredEnds 56 = .ok (.iinc 5 1, 3) := by decide +kernel
theorem dX1_squaredEnds_59 : decode cX1_squaredEnds 59 = .ok (.goto (-51), 3) := by decide +kernel
theorem dX1_squaredEnds_62 : decode cX1_squaredEnds 62 = .ok (.lload_n 2, 1) := by decide +kernel
theorem dX1_squaredEnds_63 : decode cX1_squaredEnds 63 = .ok (.lreturn, 1) := by decide +kernel
set_option maxRecDepth 20000 in
theorem ggX1_countOver_X1_isOver : GoodIn wsX1_countOver wsX1_isOver := goodIn_r _ [6, 7, 8, 9, 10, 5, 11, 1, 12, 13, 14, 15, 16] (by decide +kernel) (by decide +kernel)
set_option maxRecDepth 20000 in
theorem gX1_countOver_X1_isOver : GoodIn wsX1_countOver (wsV RX1 42 RX1 yX1_isOver wsX1_isOver) := goodIn_app (goodIn_of _ (by decide +kernel)) ggX1_countOver_X1_isOver
theorem dX1_countOver_0 : decode cX1_countOver 0 = .ok (.iconst 0, 1) := by decide +kernel
theorem dX1_countOver_1 : decode cX1_countOver 1 = .ok (.istore_n 2, 1) := by decide +kernel
theorem dX1_countOver_2 : decode cX1_countOver 2 = .ok (.iload_n 1, 1) := by decide +kernel
theorem dX1_countOver_3 : decode cX1_countOver 3 = .ok (.iconst 1, 1) := by decide +kernel
theorem dX1_countOver_4 : decode cX1_countOver 4 = .ok (.iadd, 1) := by decide +kernel
theorem dX1_countOver_5 : decode cX1_countOver 5 = .ok (.istore_n 3, 1) := by decide +kernel
theorem dX1_countOver_6 : decode cX1_countOver 6 = .ok (.iload_n 3, 1) := by decide +kernel
theorem dX1_countOver_7 : decode cX1_countOver 7 = .ok (.aload_n 0, 1) := by decide +kernel
theorem dX1_countOver_8 : decode cX1_countOver 8 = .ok (.getfield 16, 3) := by decide +kernel
theorem dX1_countOver_11 : decode cX1_countOver 11 = .ok (.if_icmp .ge 21, 3) := by decide +kernel
theorem dX1_countOver_14 : decode cX1_countOver 14 = .ok (.aload_n 0, 1) := by decide +kernel
theorem dX1_countOver_15 : decode cX1_countOver 15 = .ok (.iload_n 3, 1) := by decide +kernel
theorem dX1_countOver_16 : decode cX1_countOver 16 = .ok (.iload_n 1, 1) := by decide +kernel
theorem dX1_countOver_17 : decode cX1_countOver 17 = .ok (.invokevirtual 42, 3) := by decide +kernel
theorem dX1_countOver_20 : decode cX1_countOver 20 = .ok (.ifCond .eq 6, 3) := by decide +kernel
theorem dX1_countOver_23 : decode cX1_countOver 23 = .ok (.iinc 2 1, 3) := by decide +kernel
theorem dX1_countOver_26 : decode cX1_countOver 26 = .ok (.iinc 3 1, 3) := by decide +kernel
theorem dX1_countOver_29 : decode cX1_countOver 29 = .ok (.goto (-23), 3) := by decide +kernel
theorem dX1_countOver_32 : decode cX1_countOver 32 = .ok (.iload_n 2, 1) := by decide +kernel
theorem dX1_countOver_33 : decode cX1_countOver 33 = .ok (.ireturn, 1) := by decide +kernel
set_option maxRecDepth 20000 in
theorem ggX1_isOver_X1_has : GoodIn wsX1_isOver wsX1_has := goodIn_r _ [6, 7, 8, 9, 10, 11, 12] (by decide +kernel) (by decide +kernel)
set_option maxRecDepth 20000 in
theorem gX1_isOver_X1_has : GoodIn wsX1_isOver (wsV RX1 39 RX1 yX1_has wsX1_has) := goodIn_app (goodIn_of _ (by decide +kernel)) ggX1_isOver_X1_has
theorem dX1_isOver_0 : decode cX1_isOver 0 = .ok (.aload_n 0, 1) := by decide +kernel
theorem dX1_isOver_1 : decode cX1_isOver 1 = .ok (.getfield 13, 3) := by decide +kernel
theorem dX1_isOver_4 : decode cX1_isOver 4 = .ok (.iload_n 1, 1) := by decide +kernel
theorem dX1_isOver_5 : decode cX1_isOver 5 = .ok (.aaload, 1) := by decide +kernel
theorem dX1_isOver_6 : decode cX1_isOver 6 = .ok (.bipush 6, 2) := by decide +kernel
theorem dX1_isOver_8 : decode cX1_isOver 8 = .ok (.iaload, 1) := by decide +kernel
theorem dX1_isOver_9 : decode cX1_isOver 9 = .ok (.istore_n 3, 1) := by decide +kernel
theorem dX1_isOver_10 : decode cX1_isOver 10 = .ok (.iconst 0, 1) := by decide +kernel
theorem dX1_isOver_11 : decode cX1_isOver 11 = .ok (.istore 4, 2) := by decide +kernel
theorem dX1_isOver_13 : decode cX1_isOver 13 = .ok (.iload 4, 2) := by decide +kernel
theorem dX1_isOver_15 : decode cX1_isOver 15 = .ok (.bipush 40, 2) := by decide +kernel
theorem dX1_isOver_17 : decode cX1_isOver 17 = .ok (.if_icmp .ge 34, 3) := by decide +kernel
theorem dX1_isOver_20 : decode cX1_isOver 20 = .ok (.aload_n 0, 1) := by decide +kernel
theorem dX1_isOver_21 : decode cX1_isOver 21 = .ok (.iload_n 3, 1) := by decide +kernel
theorem dX1_isOver_22 : decode cX1_isOver 22 = .ok (.invokevirtual 39, 3) := by decide +kernel
theorem dX1_isOver_25 : decode cX1_isOver 25 = .ok (.ifCond .eq 26, 3) := by decide +kernel
theorem dX1_isOver_28 : decode cX1_isOver 28 = .ok (.iload_n 3, 1) := by decide +kernel
theorem dX1_isOver_29 : decode cX1_isOver 29 = .ok (.iload_n 2, 1) := by decide +kernel
theorem dX1_isOver_30 : decode cX1_isOver 30 = .ok (.if_icmp .ne 5, 3) := by decide +kernel
theorem dX1_isOver_33 : decode cX1_isOver 33 = .ok (.iconst 1, 1) := by decide +kernel
theorem dX1_isOver_34 : decode cX1_isOver 34 = .ok (.ireturn, 1) := by decide +kernel
theorem dX1_isOver_35 : decode cX1_isOver 35 = .ok (.aload_n 0, 1) := by decide +kernel
theorem dX1_isOver_36 : decode cX1_isOver 36 = .ok (.getfield 13, 3) := by decide +kernel
theorem dX1_isOver_39 : decode cX1_isOver 39 = .ok (.iload_n 3, 1) := by decide +kernel
theorem dX1_isOver_40 : decode cX1_isOver 40 = .ok (.aaload, 1) := by decide +kernel
theorem dX1_isOver_41 : decode cX1_isOver 41 = .ok (.bipush 6, 2) := by decide +kernel
theorem dX1_isOver_43 : decode cX1_isOver 43 = .ok (.iaload, 1) := by decide +kernel
theorem dX1_isOver_44 : decode cX1_isOver 44 = .ok (.istore_n 3, 1) := by decide +kernel
theorem dX1_isOver_45 : decode cX1_isOver 45 = .ok (.iinc 4 1, 3) := by decide +kernel
theorem dX1_isOver_48 : decode cX1_isOver 48 = .ok (.goto (-35), 3) := by decide +kernel
theorem dX1_isOver_51 : decode cX1_isOver 51 = .ok (.iconst 0, 1) := by decide +kernel
theorem dX1_isOver_52 : decode cX1_isOver 52 = .ok (.ireturn, 1) := by decide +kernel
set_option maxRecDepth 20000 in
theorem ggX1_countOverBulb_X1_isOverBulb : GoodIn wsX1_countOverBulb wsX1_isOverBulb := goodIn_r _ [7, 2, 8, 9, 10, 6, 11, 1, 12, 13, 14, 15, 16] (by decide +kernel) (by decide +kernel)
set_option maxRecDepth 20000 in
theorem gX1_countOverBulb_X1_isOverBulb : GoodIn wsX1_countOverBulb (wsV RX1 46 RX1 yX1_isOverBulb wsX1_isOverBulb) := goodIn_app (goodIn_of _ (by decide +kernel)) ggX1_countOverBulb_X1_isOverBulb
theorem dX1_countOverBulb_0 : decode cX1_countOverBulb 0 = .ok (.iconst 0, 1) := by decide +kernel
theorem dX1_countOverBulb_1 : decode cX1_countOverBulb 1 = .ok (.istore_n 2, 1) := by decide +kernel
theorem dX1_countOverBulb_2 : decode cX1_countOverBulb 2 = .ok (.iconst 0, 1) := by decide +kernel
theorem dX1_countOverBulb_3 : decode cX1_countOverBulb 3 = .ok (.istore_n 3, 1) := by decide +kernel
theorem dX1_countOverBulb_4 : decode cX1_countOverBulb 4 = .ok (.iload_n 3, 1) := by decide +kernel
theorem dX1_countOverBulb_5 : decode cX1_countOverBulb 5 = .ok (.aload_n 0, 1) := by decide +kernel
theorem dX1_countOverBulb_6 : decode cX1_countOverBulb 6 = .ok (.getfield 16, 3) := by decide +kernel
theorem dX1_countOverBulb_9 : decode cX1_countOverBulb 9 = .ok (.if_icmp .ge 32, 3) := by decide +kernel
theorem dX1_countOverBulb_12 : decode cX1_countOverBulb 12 = .ok (.aload_n 0, 1) := by decide +kernel
theorem dX1_countOverBulb_13 : decode cX1_countOverBulb 13 = .ok (.getfield 13, 3) := by decide +kernel
theorem dX1_countOverBulb_16 : decode cX1_countOverBulb 16 = .ok (.iload_n 3, 1) := by decide +kernel
theorem dX1_countOverBulb_17 : decode cX1_countOverBulb 17 = .ok (.aaload, 1) := by decide +kernel
theorem dX1_countOverBulb_18 : decode cX1_countOverBulb 18 = .ok (.iconst 5, 1) := by decide +kernel
theorem dX1_countOverBulb_19 : decode cX1_countOverBulb 19 = .ok (.iaload, 1) := by decide +kernel
theorem dX1_countOverBulb_20 : decode cX1_countOverBulb 20 = .ok (.ifCond .ne 15, 3) := by decide +kernel
theorem dX1_countOverBulb_23 : decode cX1_countOverBulb 23 = .ok (.aload_n 0, 1) := by decide +kernel
theorem dX1_countOverBulb_24 : decode cX1_countOverBulb 24 = .ok (.iload_n 3, 1) := by decide +kernel
theorem dX1_countOverBulb_25 : decode cX1_countOverBulb 25 = .ok (.iload_n 1, 1) := by decide +kernel
theorem dX1_countOverBulb_26 : decode cX1_countOverBulb 26 = .ok (.invokevirtual 46, 3) := by decide +kernel
theorem dX1_countOverBulb_29 : decode cX1_countOverBulb 29 = .ok (.ifCond .eq 6, 3) := by decide +kernel
theorem dX1_countOverBulb_32 : decode cX1_countOverBulb 32 = .ok (.iinc 2 1, 3) := by decide +kernel
theorem dX1_countOverBulb_35 : decode cX1_countOverBulb 35 = .ok (.iinc 3 1, 3) := by decide +kernel
theorem dX1_countOverBulb_38 : decode cX1_countOverBulb 38 = .ok (.goto (-34), 3) := by decide +kernel
theorem dX1_countOverBulb_41 : decode cX1_countOverBulb 41 = .ok (.iload_n 2, 1) := by decide +kernel
theorem dX1_countOverBulb_42 : decode cX1_countOverBulb 42 = .ok (.ireturn, 1) := by decide +kernel
set_option maxRecDepth 20000 in
theorem ggX1_isOverBulb_X1_has : GoodIn wsX1_isOverBulb wsX1_has := goodIn_r _ [6, 7, 8, 9, 10, 11, 12] (by decide +kernel) (by decide +kernel)
set_option maxRecDepth 20000 in
theorem gX1_isOverBulb_X1_has : GoodIn wsX1_isOverBulb (wsV RX1 39 RX1 yX1_has wsX1_has) := goodIn_app (goodIn_of _ (by decide +kernel)) ggX1_isOverBulb_X1_has
theorem dX1_isOverBulb_0 : decode cX1_isOverBulb 0 = .ok (.aload_n 0, 1) := by decide +kernel
theorem dX1_isOverBulb_1 : decode cX1_isOverBulb 1 = .ok (.getfield 13, 3) := by decide +kernel
theorem dX1_isOverBulb_4 : decode cX1_isOverBulb 4 = .ok (.iload_n 1, 1) := by decide +kernel
theorem dX1_isOverBulb_5 : decode cX1_isOverBulb 5 = .ok (.aaload, 1) := by decide +kernel
theorem dX1_isOverBulb_6 : decode cX1_isOverBulb 6 = .ok (.bipush 6, 2) := by decide +kernel
theorem dX1_isOverBulb_8 : decode cX1_isOverBulb 8 = .ok (.iaload, 1) := by decide +kernel
theorem dX1_isOverBulb_9 : decode cX1_isOverBulb 9 = .ok (.istore_n 3, 1) := by decide +kernel
theorem dX1_isOverBulb_10 : decode cX1_isOverBulb 10 = .ok (.iconst 0, 1) := by decide +kernel
theorem dX1_isOverBulb_11 : decode cX1_isOverBulb 11 = .ok (.istore 4, 2) := by decide +kernel
theorem dX1_isOverBulb_13 : decode cX1_isOverBulb 13 = .ok (.iload 4, 2) := by decide +kernel
theorem dX1_isOverBulb_15 : decode cX1_isOverBulb 15 = .ok (.bipush 40, 2) := by decide +kernel
theorem dX1_isOverBulb_17 : decode cX1_isOverBulb 17 = .ok (.if_icmp .ge 41, 3) := by decide +kernel
theorem dX1_isOverBulb_20 : decode cX1_isOverBulb 20 = .ok (.aload_n 0, 1) := by decide +kernel
theorem dX1_isOverBulb_21 : decode cX1_isOverBulb 21 = .ok (.iload_n 3, 1) := by decide +kernel
theorem dX1_isOverBulb_22 : decode cX1_isOverBulb 22 = .ok (.invokevirtual 39, 3) := by decide +kernel
theorem dX1_isOverBulb_25 : decode cX1_isOverBulb 25 = .ok (.ifCond .eq 33, 3) := by decide +kernel
theorem dX1_isOverBulb_28 : decode cX1_isOverBulb 28 = .ok (.aload_n 0, 1) := by decide +kernel
theorem dX1_isOverBulb_29 : decode cX1_isOverBulb 29 = .ok (.getfield 13, 3) := by decide +kernel
theorem dX1_isOverBulb_32 : decode cX1_isOverBulb 32 = .ok (.iload_n 3, 1) := by decide +kernel
theorem dX1_isOverBulb_33 : decode cX1_isOverBulb 33 = .ok (.aaload, 1) := by decide +kernel
theorem dX1_isOverBulb_34 : decode cX1_isOverBulb 34 = .ok (.iconst 0, 1) := by decide +kernel
theorem dX1_isOverBulb_35 : decode cX1_isOverBulb 35 = .ok (.iaload, 1) := by decide +kernel
theorem dX1_isOverBulb_36 : decode cX1_isOverBulb 36 = .ok (.iload_n 2, 1) := by decide +kernel
theorem dX1_isOverBulb_37 : decode cX1_isOverBulb 37 = .ok (.if_icmp .ne 5, 3) := by decide +kernel
theorem dX1_isOverBulb_40 : decode cX1_isOverBulb 40 = .ok (.iconst 1, 1) := by decide +kernel
theorem dX1_isOverBulb_41 : decode cX1_isOverBulb 41 = .ok (.ireturn, 1) := by decide +kernel
theorem dX1_isOverBulb_42 : decode cX1_isOverBulb 42 = .ok (.aload_n 0, 1) := by decide +kernel
theorem dX1_isOverBulb_43 : decode cX1_isOverBulb 43 = .ok (.getfield 13, 3) := by decide +kernel
theorem dX1_isOverBulb_46 : decode cX1_isOverBulb 46 = .ok (.iload_n 3, 1) := by decide +kernel
theorem dX1_isOverBulb_47 : decode cX1_isOverBulb 47 = .ok (.aaload, 1) := by decide +kernel
theorem dX1_isOverBulb_48 : decode cX1_isOverBulb 48 = .ok (.bipush 6, 2) := by decide +kernel
theorem dX1_isOverBulb_50 : decode cX1_isOverBulb 50 = .ok (.iaload, 1) := by decide +kernel
theorem dX1_isOverBulb_51 : decode cX1_isOverBulb 51 = .ok (.istore_n 3, 1) := by decide +kernel
theorem dX1_isOverBulb_52 : decode cX1_isOverBulb 52 = .ok (.iinc 4 1, 3) := by decide +kernel
theorem dX1_isOverBulb_55 : decode cX1_isOverBulb 55 = .ok (.goto (-42), 3) := by decide +kernel
theorem dX1_isOverBulb_58 : decode cX1_isOverBulb 58 = .ok (.iconst 0, 1) := by decide +kernel
theorem dX1_isOverBulb_59 : decode cX1_isOverBulb 59 = .ok (.ireturn, 1) := by decide +kernel
theorem dX2_init_0 : decode cX2_init 0 = .ok (.aload_n 0, 1) := by decide +kernel
theorem dX2_init_1 : decode cX2_init 1 = .ok (.invokespecial 1, 3) := by decide +kernel
theorem dX2_init_4 : decode cX2_init 4 = .ok (.aload_n 0, 1) := by decide +kernel
theorem dX2_init_5 : decode cX2_init 5 = .ok (.lconst 0, 1) := by decide +kernel
theorem dX2_init_6 : decode cX2_init 6 = .ok (.putfield 7, 3) := by decide +kernel
theorem dX2_init_9 : decode cX2_init 9 = .ok (.aload_n 0, 1) := by decide +kernel
theorem dX2_init_10 : decode cX2_init 10 = .ok (.lconst 1, 1) := by decide +kernel
theorem dX2_init_11 : decode cX2_init 11 = .ok (.putfield 13, 3) := by decide +kernel
theorem dX2_init_14 : decode cX2_init 14 = .ok (.return_, 1) := by decide +kernel
set_option maxRecDepth 20000 in
theorem ggX2_tell_X6_greatestDivisor : GoodIn wsX2_tell wsX6_greatestDivisor := goodIn_r _ [5, 6, 7, 8, 9] (by decide +kernel) (by decide +kernel)
set_option maxRecDepth 20000 in
theorem gX2_tell_X6_greatestDivisor_n16 : GoodIn wsX2_tell (wsX6_greatestDivisor) := ggX2_tell_X6_greatestDivisor
theorem dX2_tell_0 : decode cX2_tell 0 = .ok (.lload_n 1, 1) := by decide +kernel
theorem dX2_tell_1 : decode cX2_tell 1 = .ok (.lload_n 3, 1) := by decide +kernel
theorem dX2_tell_2 : decode cX2_tell 2 = .ok (.invokestatic 16, 3) := by decide +kernel
theorem dX2_tell_5 : decode cX2_tell 5 = .ok (.lstore 5, 2) := by decide +kernel
theorem dX2_tell_7 : decode cX2_tell 7 = .ok (.lload_n 3, 1) := by decide +kernel
theorem dX2_tell_8 : decode cX2_tell 8 = .ok (.lconst 0, 1) := by decide +kernel
theorem dX2_tell_9 : decode cX2_tell 9 = .ok (.lcmp, 1) := by decide +kernel
theorem dX2_tell_10 : decode cX2_tell 10 = .ok (.ifCond .eq 10, 3) := by decide +kernel
theorem dX2_tell_13 : decode cX2_tell 13 = .ok (.lload 5, 2) := by decide +kernel
theorem dX2_tell_15 : decode cX2_tell 15 = .ok (.lconst 0, 1) := by decide +kernel
theorem dX2_tell_16 : decode cX2_tell 16 = .ok (.lcmp, 1) := by decide +kernel
theorem dX2_tell_17 : decode cX2_tell 17 = .ok (.ifCond .ne 4, 3) := by decide +kernel
theorem dX2_tell_20 : decode cX2_tell 20 = .ok (.return_, 1) := by decide +kernel
theorem dX2_tell_21 : decode cX2_tell 21 = .ok (.lload_n 3, 1) := by decide +kernel
theorem dX2_tell_22 : decode cX2_tell 22 = .ok (.lconst 0, 1) := by decide +kernel
theorem dX2_tell_23 : decode cX2_tell 23 = .ok (.lcmp, 1) := by decide +kernel
theorem dX2_tell_24 : decode cX2_tell 24 = .ok (.ifCond .ge 9, 3) := by decide +kernel
theorem dX2_tell_27 : decode cX2_tell 27 = .ok (.lload 5, 2) := by decide +kernel
theorem dX2_tell_29 : decode cX2_tell 29 = .ok (.lneg, 1) := by decide +kernel
theorem dX2_tell_30 : decode cX2_tell 30 = .ok (.goto 5, 3) := by decide +kernel
theorem dX2_tell_33 : decode cX2_tell 33 = .ok (.lload 5, 2) := by decide +kernel
theorem dX2_tell_35 : decode cX2_tell 35 = .ok (.lstore 7, 2) := by decide +kernel
theorem dX2_tell_37 : decode cX2_tell 37 = .ok (.aload_n 0, 1) := by decide +kernel
theorem dX2_tell_38 : decode cX2_tell 38 = .ok (.lload_n 1, 1) := by decide +kernel
theorem dX2_tell_39 : decode cX2_tell 39 = .ok (.lload 7, 2) := by decide +kernel
theorem dX2_tell_41 : decode cX2_tell 41 = .ok (.ldiv, 1) := by decide +kernel
theorem dX2_tell_42 : decode cX2_tell 42 = .ok (.putfield 7, 3) := by decide +kernel
theorem dX2_tell_45 : decode cX2_tell 45 = .ok (.aload_n 0, 1) := by decide +kernel
theorem dX2_tell_46 : decode cX2_tell 46 = .ok (.lload_n 3, 1) := by decide +kernel
theorem dX2_tell_47 : decode cX2_tell 47 = .ok (.lload 7, 2) := by decide +kernel
theorem dX2_tell_49 : decode cX2_tell 49 = .ok (.ldiv, 1) := by decide +kernel
theorem dX2_tell_50 : decode cX2_tell 50 = .ok (.putfield 13, 3) := by decide +kernel
theorem dX2_tell_53 : decode cX2_tell 53 = .ok (.return_, 1) := by decide +kernel
set_option maxRecDepth 20000 in
theorem ggX3_init_J7_fill_53178 : GoodIn wsX3_init wsJ7_fill_53178 := goodIn_r _ [11] (by decide +kernel) (by decide +kernel)
set_option maxRecDepth 20000 in
theorem gX3_init_J7_fill_53178 : GoodIn wsX3_init (va_wsS RX3 19 yJ7_fill_53178 wsJ7_fill_53178) := goodIn_app (goodIn_of _ (by decide +kernel)) ggX3_init_J7_fill_53178
theorem dX3_init_0 : decode cX3_init 0 = .ok (.aload_n 0, 1) := by decide +kernel
theorem dX3_init_1 : decode cX3_init 1 = .ok (.invokespecial 3, 3) := by decide +kernel
theorem dX3_init_4 : decode cX3_init 4 = .ok (.aload_n 0, 1) := by decide +kernel
theorem dX3_init_5 : decode cX3_init 5 = .ok (.bipush 6, 2) := by decide +kernel
theorem dX3_init_7 : decode cX3_init 7 = .ok (.bipush 6, 2) := by decide +kernel
theorem dX3_init_9 : decode cX3_init 9 = .ok (.multianewarray 9 2, 4) := by decide +kernel
theorem dX3_init_13 : decode cX3_init 13 = .ok (.putfield 11, 3) := by decide +kernel
theorem dX3_init_16 : decode cX3_init 16 = .ok (.aload_n 0, 1) := by decide +kernel
theorem dX3_init_17 : decode cX3_init 17 = .ok (.bipush 6, 2) := by decide +kernel
theorem dX3_init_19 : decode cX3_init 19 = .ok (.bipush 6, 2) := by decide +kernel
theorem dX3_init_21 : decode cX3_init 21 = .ok (.multianewarray 9 2, 4) := by decide +kernel
theorem dX3_init_25 : decode cX3_init 25 = .ok (.putfield 16, 3) := by decide +kernel
theorem dX3_init_28 : decode cX3_init 28 = .ok (.iconst 0, 1) := by decide +kernel
theorem dX3_init_29 : decode cX3_init 29 = .ok (.istore_n 1, 1) := by decide +kernel
theorem dX3_init_30 : decode cX3_init 30 = .ok (.iload_n 1, 1) := by decide +kernel
theorem dX3_init_31 : decode cX3_init 31 = .ok (.bipush 6, 2) := by decide +kernel
theorem dX3_init_33 : decode cX3_init 33 = .ok (.if_icmp .ge 19, 3) := by decide +kernel
theorem dX3_init_36 : decode cX3_init 36 = .ok (.aload_n 0, 1) := by decide +kernel
theorem dX3_init_37 : decode cX3_init 37 = .ok (.getfield 16, 3) := by decide +kernel
theorem dX3_init_40 : decode cX3_init 40 = .ok (.iload_n 1, 1) := by decide +kernel
theorem dX3_init_41 : decode cX3_init 41 = .ok (.aaload, 1) := by decide +kernel
theorem dX3_init_42 : decode cX3_init 42 = .ok (.iconst (-1), 1) := by decide +kernel
theorem dX3_init_43 : decode cX3_init 43 = .ok (.invokestatic 19, 3) := by decide +kernel
theorem dX3_init_46 : decode cX3_init 46 = .ok (.iinc 1 1, 3) := by decide +kernel
theorem dX3_init_49 : decode cX3_init 49 = .ok (.goto (-19), 3) := by decide +kernel
theorem dX3_init_52 : decode cX3_init 52 = .ok (.return_, 1) := by decide +kernel
theorem dX3_put_0 : decode cX3_put 0 = .ok (.aload_n 0, 1) := by decide +kernel
theorem dX3_put_1 : decode cX3_put 1 = .ok (.getfield 11, 3) := by decide +kernel
theorem dX3_put_4 : decode cX3_put 4 = .ok (.iload_n 1, 1) := by decide +kernel
theorem dX3_put_5 : decode cX3_put 5 = .ok (.aaload, 1) := by decide +kernel
theorem dX3_put_6 : decode cX3_put 6 = .ok (.iload_n 2, 1) := by decide +kernel
theorem dX3_put_7 : decode cX3_put 7 = .ok (.iload_n 3, 1) := by decide +kernel
theorem dX3_put_8 : decode cX3_put 8 = .ok (.iastore, 1) := by decide +kernel
theorem dX3_put_9 : decode cX3_put 9 = .ok (.aload_n 0, 1) := by decide +kernel
theorem dX3_put_10 : decode cX3_put 10 = .ok (.getfield 11, 3) := by decide +kernel
theorem dX3_put_13 : decode cX3_put 13 = .ok (.iload_n 2, 1) := by decide +kernel
theorem dX3_put_14 : decode cX3_put 14 = .ok (.aaload, 1) := by decide +kernel
theorem dX3_put_15 : decode cX3_put 15 = .ok (.iload_n 1, 1) := by decide +kernel
theorem dX3_put_16 : decode cX3_put 16 = .ok (.iload_n 3, 1) := by decide +kernel
theorem dX3_put_17 : decode cX3_put 17 = .ok (.ineg, 1) := by decide +kernel
theorem dX3_put_18 : decode cX3_put 18 = .ok (.iastore, 1) := by decide +kernel
theorem dX3_put_19 : decode cX3_put 19 = .ok (.aload_n 0, 1) := by decide +kernel
theorem dX3_put_20 : decode cX3_put 20 = .ok (.getfield 16, 3) := by decide +kernel
theorem dX3_put_23 : decode cX3_put 23 = .ok (.iload_n 1, 1) := by decide +kernel
theorem dX3_put_24 : decode cX3_put 24 = .ok (.aaload, 1) := by decide +kernel
theorem dX3_put_25 : decode cX3_put 25 = .ok (.iload_n 2, 1) := by decide +kernel
theorem dX3_put_26 : decode cX3_put 26 = .ok (.iload 4, 2) := by decide +kernel
theorem dX3_put_28 : decode cX3_put 28 = .ok (.iastore, 1) := by decide +kernel
theorem dX3_put_29 : decode cX3_put 29 = .ok (.aload_n 0, 1) := by decide +kernel
theorem dX3_put_30 : decode cX3_put 30 = .ok (.getfield 16, 3) := by decide +kernel
theorem dX3_put_33 : decode cX3_put 33 = .ok (.iload_n 2, 1) := by decide +kernel
theorem dX3_put_34 : decode cX3_put 34 = .ok (.aaload, 1) := by decide +kernel
theorem dX3_put_35 : decode cX3_put 35 = .ok (.iload_n 1, 1) := by decide +kernel
theorem dX3_put_36 : decode cX3_put 36 = .ok (.iload 4, 2) := by decide +kernel
theorem dX3_put_38 : decode cX3_put 38 = .ok (.iastore, 1) := by decide +kernel
theorem dX3_put_39 : decode cX3_put 39 = .ok (.return_, 1) := by decide +kernel
theorem dX3_isKnown_0 : decode cX3_isKnown 0 = .ok (.aload_n 0, 1) := by decide +kernel
theorem dX3_isKnown_1 : decode cX3_isKnown 1 = .ok (.getfield 16, 3) := by decide +kernel
theorem dX3_isKnown_4 : decode cX3_isKnown 4 = .ok (.iload_n 1, 1) := by decide +kernel
theorem dX3_isKnown_5 : decode cX3_isKnown 5 = .ok (.aaload, 1) := by decide +kernel
theorem dX3_isKnown_6 : decode cX3_isKnown 6 = .ok (.iload_n 2, 1) := by decide +kernel
theorem dX3_isKnown_7 : decode cX3_isKnown 7 = .ok (.iaload, 1) := by decide +kernel
theorem dX3_isKnown_8 : decode cX3_isKnown 8 = .ok (.iconst (-1), 1) := by decide +kernel
theorem dX3_isKnown_9 : decode cX3_isKnown 9 = .ok (.if_icmp .eq 31, 3) := by decide +kernel
theorem dX3_isKnown_12 : decode cX3_isKnown 12 = .ok (.aload_n 0, 1) := by decide +kernel
theorem dX3_isKnown_13 : decode cX3_isKnown 13 = .ok (.getfield 16, 3) := by decide +kernel
theorem dX3_isKnown_16 : decode cX3_isKnown 16 = .ok (.iload_n 2, 1) := by decide +kernel
theorem dX3_isKnown_17 : decode cX3_isKnown 17 = .ok (.aaload, 1) := by decide +kernel
theorem dX3_isKnown_18 : decode cX3_isKnown 18 = .ok (.iload_n 3, 1) := by decide +kernel
theorem dX3_isKnown_19 : decode cX3_isKnown 19 = .ok (.iaload, 1) := by decide +kernel
theorem dX3_isKnown_20 : decode cX3_isKnown 20 = .ok (.iconst (-1), 1) := by decide +kernel
theorem dX3_isKnown_21 : decode cX3_isKnown 21 = .ok (.if_icmp .eq 19, 3) := by decide +kernel
theorem dX3_isKnown_24 : decode cX3_isKnown 24 = .ok (.aload_n 0, 1) := by decide +kernel
theorem dX3_isKnown_25 : decode cX3_isKnown 25 = .ok (.getfield 16, 3) := by decide +kernel
theorem dX3_isKnown_28 : decode cX3_isKnown 28 = .ok (.iload_n 3, 1) := by decide +kernel
theorem dX3_isKnown_29 : decode cX3_isKnown 29 = .ok (.aaload, 1) := by decide +kernel
theorem dX3_isKnown_30 : decode cX3_isKnown 30 = .ok (.iload_n 1, 1) := by decide +kernel
theorem dX3_isKnown_31 : decode cX3_isKnown 31 = .ok (.iaload, 1) := by decide +kernel
theorem dX3_isKnown_32 : decode cX3_isKnown 32 = .ok (.iconst (-1), 1) := by decide +kernel
theorem dX3_isKnown_33 : decode cX3_isKnown 33 = .ok (.if_icmp .eq 7, 3) := by decide +kernel
theorem dX3_isKnown_36 : decode cX3_isKnown 36 = .ok (.iconst 1, 1) := by decide +kernel
theorem dX3_isKnown_37 : decode cX3_isKnown 37 = .ok (.goto 4, 3) := by decide +kernel
theorem dX3_isKnown_40 : decode cX3_isKnown 40 = .ok (.iconst 0, 1) := by decide +kernel
theorem dX3_isKnown_41 : decode cX3_isKnown 41 = .ok (.ireturn, 1) := by decide +kernel
theorem dX3_gap_0 : decode cX3_gap 0 = .ok (.aload_n 0, 1) := by decide +kernel
theorem dX3_gap_1 : decode cX3_gap 1 = .ok (.getfield 11, 3) := by decide +kernel
theorem dX3_gap_4 : decode cX3_gap 4 = .ok (.iload_n 1, 1) := by decide +kernel
theorem dX3_gap_5 : decode cX3_gap 5 = .ok (.aaload, 1) := by decide +kernel
theorem dX3_gap_6 : decode cX3_gap 6 = .ok (.iload_n 2, 1) := by decide +kernel
theorem dX3_gap_7 : decode cX3_gap 7 = .ok (.iaload, 1) := by decide +kernel
theorem dX3_gap_8 : decode cX3_gap 8 = .ok (.aload_n 0, 1) := by decide +kernel
theorem dX3_gap_9 : decode cX3_gap 9 = .ok (.getfield 11, 3) := by decide +kernel
theorem dX3_gap_12 : decode cX3_gap 12 = .ok (.iload_n 2, 1) := by decide +kernel
theorem dX3_gap_13 : decode cX3_gap 13 = .ok (.aaload, 1) := by decide +kernel
theorem dX3_gap_14 : decode cX3_gap 14 = .ok (.iload_n 3, 1) := by decide +kernel
theorem dX3_gap_15 : decode cX3_gap 15 = .ok (.iaload, 1) := by decide +kernel
theorem dX3_gap_16 : decode cX3_gap 16 = .ok (.iadd, 1) := by decide +kernel
theorem dX3_gap_17 : decode cX3_gap 17 = .ok (.aload_n 0, 1) := by decide +kernel
theorem dX3_gap_18 : decode cX3_gap 18 = .ok (.getfield 11, 3) := by decide +kernel
theorem dX3_gap_21 : decode cX3_gap 21 = .ok (.iload_n 3, 1) := by decide +kernel
theorem dX3_gap_22 : decode cX3_gap 22 = .ok (.aaload, 1) := by decide +kernel
theorem dX3_gap_23 : decode cX3_gap 23 = .ok (.iload_n 1, 1) := by decide +kernel
theorem dX3_gap_24 : decode cX3_gap 24 = .ok (.iaload, 1) := by decide +kernel
theorem dX3_gap_25 : decode cX3_gap 25 = .ok (.iadd, 1) := by decide +kernel
theorem dX3_gap_26 : decode cX3_gap 26 = .ok (.ireturn, 1) := by decide +kernel
set_option maxRecDepth 20000 in
theorem ggX3_isShut_X3_gap : GoodIn wsX3_isShut wsX3_gap := goodIn_r _ [10, 11, 12, 13] (by decide +kernel) (by decide +kernel)
set_option maxRecDepth 20000 in
theorem gX3_isShut_X3_gap : GoodIn wsX3_isShut (wsV RX3 25 RX3 yX3_gap wsX3_gap) := goodIn_app (goodIn_of _ (by decide +kernel)) ggX3_isShut_X3_gap
theorem dX3_isShut_0 : decode cX3_isShut 0 = .ok (.aload_n 0, 1) := by decide +kernel
theorem dX3_isShut_1 : decode cX3_isShut 1 = .ok (.iload_n 1, 1) := by decide +kernel
theorem dX3_isShut_2 : decode cX3_isShut 2 = .ok (.iload_n 2, 1) := by decide +kernel
theorem dX3_isShut_3 : decode cX3_isShut 3 = .ok (.iload_n 3, 1) := by decide +kernel
theorem dX3_isShut_4 : decode cX3_isShut 4 = .ok (.invokevirtual 25, 3) := by decide +kernel
theorem dX3_isShut_7 : decode cX3_isShut 7 = .ok (.invokestatic 29, 3) := by decide +kernel
theorem dX3_isShut_10 : decode cX3_isShut 10 = .ok (.aload_n 0, 1) := by decide +kernel
theorem dX3_isShut_11 : decode cX3_isShut 11 = .ok (.getfield 16, 3) := by decide +kernel
theorem dX3_isShut_14 : decode cX3_isShut 14 = .ok (.iload_n 1, 1) := by decide +kernel
theorem dX3_isShut_15 : decode cX3_isShut 15 = .ok (.aaload, 1) := by decide +kernel
theorem dX3_isShut_16 : decode cX3_isShut 16 = .ok (.iload_n 2, 1) := by decide +kernel
theorem dX3_isShut_17 : decode cX3_isShut 17 = .ok (.iaload, 1) := by decide +kernel
theorem dX3_isShut_18 : decode cX3_isShut 18 = .ok (.aload_n 0, 1) := by decide +kernel
theorem dX3_isShut_19 : decode cX3_isShut 19 = .ok (.getfield 16, 3) := by decide +kernel
theorem dX3_isShut_22 : decode cX3_isShut 22 = .ok (.iload_n 2, 1) := by decide +kernel
theorem dX3_isShut_23 : decode cX3_isShut 23 = .ok (.aaload, 1) := by decide +kernel
theorem dX3_isShut_24 : decode cX3_isShut 24 = .ok (.iload_n 3, 1) := by decide +kernel
theorem dX3_isShut_25 : decode cX3_isShut 25 = .ok (.iaload, 1) := by decide +kernel
theorem dX3_isShut_26 : decode cX3_isShut 26 = .ok (.iadd, 1) := by decide +kernel
theorem dX3_isShut_27 : decode cX3_isShut 27 = .ok (.aload_n 0, 1) := by decide +kernel
theorem dX3_isShut_28 : decode cX3_isShut 28 = .ok (.getfield 16, 3) := by decide +kernel
theorem dX3_isShut_31 : decode cX3_isShut 31 = .ok (.iload_n 3, 1) := by decide +kernel
theorem dX3_isShut_32 : decode cX3_isShut 32 = .ok (.aaload, 1) := by decide +kernel
theorem dX3_isShut_33 : decode cX3_isShut 33 = .ok (.iload_n 1, 1) := by decide +kernel
theorem dX3_isShut_34 : decode cX3_isShut 34 = .ok (.iaload, 1) := by decide +kernel
theorem dX3_isShut_35 : decode cX3_isShut 35 = .ok (.iadd, 1) := by decide +kernel
theorem dX3_isShut_36 : decode cX3_isShut 36 = .ok (.if_icmp .gt 7, 3) := by decide +kernel
theorem dX3_isShut_39 : decode cX3_isShut 39 = .ok (.iconst 1, 1) := by decide +kernel
theorem dX3_isShut_40 : decode cX3_isShut 40 = .ok (.goto 4, 3) := by decide +kernel
theorem dX3_isShut_43 : decode cX3_isShut 43 = .ok (.iconst 0, 1) := by decide +kernel
theorem dX3_isShut_44 : decode cX3_isShut 44 = .ok (.ireturn, 1) := by decide +kernel
set_option maxRecDepth 20000 in
theorem ggX4_init_J7_fill_53178 : GoodIn wsX4_init wsJ7_fill_53178 := goodIn_r _ [11] (by decide +kernel) (by decide +kernel)
set_option maxRecDepth 20000 in
theorem gX4_init_J7_fill_53178 : GoodIn wsX4_init (va_wsS RX4 20 yJ7_fill_53178 wsJ7_fill_53178) := goodIn_app (goodIn_of _ (by decide +kernel)) ggX4_init_J7_fill_53178
theorem dX4_init_0 : decode cX4_init 0 = .ok (.aload_n 0, 1) := by decide +kernel
theorem dX4_init_1 : decode cX4_init 1 = .ok (.invokespecial 3, 3) := by decide +kernel
theorem dX4_init_4 : decode cX4_init 4 = .ok (.aload_n 0, 1) := by decide +kernel
theorem dX4_init_5 : decode cX4_init 5 = .ok (.bipush 6, 2) := by decide +kernel
theorem dX4_init_7 : decode cX4_init 7 = .ok (.bipush 40, 2) := by decide +kernel
theorem dX4_init_9 : decode cX4_init 9 = .ok (.multianewarray 9 2, 4) := by decide +kernel
theorem dX4_init_13 : decode cX4_init 13 = .ok (.putfield 11, 3) := by decide +kernel
theorem dX4_init_16 : decode cX4_init 16 = .ok (.aload_n 0, 1) := by decide +kernel
theorem dX4_init_17 : decode cX4_init 17 = .ok (.bipush 6, 2) := by decide +kernel
theorem dX4_init_19 : decode cX4_init 19 = .ok (.newarray .int, 2) := by decide +kernel
theorem dX4_init_21 : decode cX4_init 21 = .ok (.putfield 16, 3) := by decide +kernel
theorem dX4_init_24 : decode cX4_init 24 = .ok (.aload_n 0, 1) := by decide +kernel
theorem dX4_init_25 : decode cX4_init 25 = .ok (.getfield 16, 3) := by decide +kernel
theorem dX4_init_28 : decode cX4_init 28 = .ok (.iconst (-1), 1) := by decide +kernel
theorem dX4_init_29 : decode cX4_init 29 = .ok (.invokestatic 20, 3) := by decide +kernel
theorem dX4_init_32 : decode cX4_init 32 = .ok (.return_, 1) := by decide +kernel
theorem dX4_isMissing_0 : decode cX4_isMissing 0 = .ok (.aload_n 0, 1) := by decide +kernel
theorem dX4_isMissing_1 : decode cX4_isMissing 1 = .ok (.getfield 16, 3) := by decide +kernel
theorem dX4_isMissing_4 : decode cX4_isMissing 4 = .ok (.iload_n 1, 1) := by decide +kernel
theorem dX4_isMissing_5 : decode cX4_isMissing 5 = .ok (.iaload, 1) := by decide +kernel
theorem dX4_isMissing_6 : decode cX4_isMissing 6 = .ok (.iconst (-1), 1) := by decide +kernel
theorem dX4_isMissing_7 : decode cX4_isMissing 7 = .ok (.if_icmp .ne 7, 3) := by decide +kernel
theorem dX4_isMissing_10 : decode cX4_isMissing 10 = .ok (.iconst 1, 1) := by decide +kernel
theorem dX4_isMissing_11 : decode cX4_isMissing 11 = .ok (.goto 4, 3) := by decide +kernel
theorem dX4_isMissing_14 : decode cX4_isMissing 14 = .ok (.iconst 0, 1) := by decide +kernel
theorem dX4_isMissing_15 : decode cX4_isMissing 15 = .ok (.ireturn, 1) := by decide +kernel
theorem dX4_sizeOf_0 : decode cX4_sizeOf 0 = .ok (.aload_n 0, 1) := by decide +kernel
theorem dX4_sizeOf_1 : decode cX4_sizeOf 1 = .ok (.getfield 16, 3) := by decide +kernel
theorem dX4_sizeOf_4 : decode cX4_sizeOf 4 = .ok (.iload_n 1, 1) := by decide +kernel
theorem dX4_sizeOf_5 : decode cX4_sizeOf 5 = .ok (.iaload, 1) := by decide +kernel
theorem dX4_sizeOf_6 : decode cX4_sizeOf 6 = .ok (.ireturn, 1) := by decide +kernel
set_option maxRecDepth 20000 in
theorem ggX4_make_J7_fill_53178 : GoodIn wsX4_make wsJ7_fill_53178 := goodIn_r _ [6] (by decide +kernel) (by decide +kernel)
set_option maxRecDepth 20000 in
theorem gX4_make_J7_fill_53178 : GoodIn wsX4_make (va_wsS RX4 20 yJ7_fill_53178 wsJ7_fill_53178) := goodIn_app (goodIn_of _ (by decide +kernel)) ggX4_make_J7_fill_53178
theorem dX4_make_0 : decode cX4_make 0 = .ok (.aload_n 0, 1) := by decide +kernel
theorem dX4_make_1 : decode cX4_make 1 = .ok (.getfield 11, 3) := by decide +kernel
theorem dX4_make_4 : decode cX4_make 4 = .ok (.iload_n 1, 1) := by decide +kernel
theorem dX4_make_5 : decode cX4_make 5 = .ok (.aaload, 1) := by decide +kernel
theorem dX4_make_6 : decode cX4_make 6 = .ok (.iconst 0, 1) := by decide +kernel
theorem dX4_make_7 : decode cX4_make 7 = .ok (.invokestatic 20, 3) := by decide +kernel
theorem dX4_make_10 : decode cX4_make 10 = .ok (.aload_n 0, 1) := by decide +kernel
theorem dX4_make_11 : decode cX4_make 11 = .ok (.getfield 16, 3) := by decide +kernel
theorem dX4_make_14 : decode cX4_make 14 = .ok (.iload_n 1, 1) := by decide +kernel
theorem dX4_make_15 : decode cX4_make 15 = .ok (.iload_n 2, 1) := by decide +kernel
theorem dX4_make_16 : decode cX4_make 16 = .ok (.iastore, 1) := by decide +kernel
theorem dX4_make_17 : decode cX4_make 17 = .ok (.return_, 1) := by decide +kernel
theorem dX4_drop_0 : decode cX4_drop 0 = .ok (.aload_n 0, 1) := by decide +kernel
theorem dX4_drop_1 : decode cX4_drop 1 = .ok (.getfield 16, 3) := by decide +kernel
theorem dX4_drop_4 : decode cX4_drop 4 = .ok (.iload_n 1, 1) := by decide +kernel
theorem dX4_drop_5 : decode cX4_drop 5 = .ok (.iconst (-1), 1) := by decide +kernel
theorem dX4_drop_6 : decode cX4_drop 6 = .ok (.iastore, 1) := by decide +kernel
theorem dX4_drop_7 : decode cX4_drop 7 = .ok (.return_, 1) := by decide +kernel
set_option maxRecDepth 20000 in
theorem ggX4_hasPlaces_X6_isBetween : GoodIn wsX4_hasPlaces wsX6_isBetween := goodIn_r _ [4] (by decide +kernel) (by decide +kernel)
set_option maxRecDepth 20000 in
theorem gX4_hasPlaces_X6_isBetween_n26 : GoodIn wsX4_hasPlaces (wsX6_isBetween) := ggX4_hasPlaces_X6_isBetween
theorem dX4_hasPlaces_0 : decode cX4_hasPlaces 0 = .ok (.iload_n 2, 1) := by decide +kernel
theorem dX4_hasPlaces_1 : decode cX4_hasPlaces 1 = .ok (.iconst 0, 1) := by decide +kernel
theorem dX4_hasPlaces_2 : decode cX4_hasPlaces 2 = .ok (.aload_n 0, 1) := by decide +kernel
theorem dX4_hasPlaces_3 : decode cX4_hasPlaces 3 = .ok (.getfield 16, 3) := by decide +kernel
theorem dX4_hasPlaces_6 : decode cX4_hasPlaces 6 = .ok (.iload_n 1, 1) := by decide +kernel
theorem dX4_hasPlaces_7 : decode cX4_hasPlaces 7 = .ok (.iaload, 1) := by decide +kernel
theorem dX4_hasPlaces_8 : decode cX4_hasPlaces 8 = .ok (.invokestatic 26, 3) := by decide +kernel
theorem dX4_hasPlaces_11 : decode cX4_hasPlaces 11 = .ok (.ifCond .eq 23, 3) := by decide +kernel
theorem dX4_hasPlaces_14 : decode cX4_hasPlaces 14 = .ok (.iload_n 3, 1) := by decide +kernel
theorem dX4_hasPlaces_15 : decode cX4_hasPlaces 15 = .ok (.iconst 0, 1) := by decide +kernel
theorem dX4_hasPlaces_16 : decode cX4_hasPlaces 16 = .ok (.aload_n 0, 1) := by decide +kernel
theorem dX4_hasPlaces_17 : decode cX4_hasPlaces 17 = .ok (.getfield 16, 3) := by decide +kernel
theorem dX4_hasPlaces_20 : decode cX4_hasPlaces 20 = .ok (.iload_n 1, 1) := by decide +kernel
theorem dX4_hasPlaces_21 : decode cX4_hasPlaces 21 = .ok (.iaload, 1) := by decide +kernel
theorem dX4_hasPlaces_22 : decode cX4_hasPlaces 22 = .ok (.iload_n 2, 1) := by decide +kernel
theorem dX4_hasPlaces_23 : decode cX4_hasPlaces 23 = .ok (.isub, 1) := by decide +kernel
theorem dX4_hasPlaces_24 : decode cX4_hasPlaces 24 = .ok (.invokestatic 26, 3) := by decide +kernel
theorem dX4_hasPlaces_27 : decode cX4_hasPlaces 27 = .ok (.ifCond .eq 7, 3) := by decide +kernel
theorem dX4_hasPlaces_30 : decode cX4_hasPlaces 30 = .ok (.iconst 1, 1) := by decide +kernel
theorem dX4_hasPlaces_31 : decode cX4_hasPlaces 31 = .ok (.goto 4, 3) := by decide +kernel
theorem dX4_hasPlaces_34 : decode cX4_hasPlaces 34 = .ok (.iconst 0, 1) := by decide +kernel
theorem dX4_hasPlaces_35 : decode cX4_hasPlaces 35 = .ok (.ireturn, 1) := by decide +kernel
theorem dX4_readingAt_0 : decode cX4_readingAt 0 = .ok (.aload_n 0, 1) := by decide +kernel
theorem dX4_readingAt_1 : decode cX4_readingAt 1 = .ok (.getfield 11, 3) := by decide +kernel
theorem dX4_readingAt_4 : decode cX4_readingAt 4 = .ok (.iload_n 1, 1) := by decide +kernel
theorem dX4_readingAt_5 : decode cX4_readingAt 5 = .ok (.aaload, 1) := by decide +kernel
theorem dX4_readingAt_6 : decode cX4_readingAt 6 = .ok (.iload_n 2, 1) := by decide +kernel
theorem dX4_readingAt_7 : decode cX4_readingAt 7 = .ok (.iaload, 1) := by decide +kernel
theorem dX4_readingAt_8 : decode cX4_readingAt 8 = .ok (.ireturn, 1) := by decide +kernel
theorem dX4_put_0 : decode cX4_put 0 = .ok (.aload_n 0, 1) := by decide +kernel
theorem dX4_put_1 : decode cX4_put 1 = .ok (.getfield 11, 3) := by decide +kernel
theorem dX4_put_4 : decode cX4_put 4 = .ok (.iload_n 1, 1) := by decide +kernel
theorem dX4_put_5 : decode cX4_put 5 = .ok (.aaload, 1) := by decide +kernel
theorem dX4_put_6 : decode cX4_put 6 = .ok (.iload_n 2, 1) := by decide +kernel
theorem dX4_put_7 : decode cX4_put 7 = .ok (.iload_n 3, 1) := by decide +kernel
theorem dX4_put_8 : decode cX4_put 8 = .ok (.iastore, 1) := by decide +kernel
theorem dX4_put_9 : decode cX4_put 9 = .ok (.return_, 1) := by decide +kernel
theorem dX4_carry_0 : decode cX4_carry 0 = .ok (.aload_n 0, 1) := by decide +kernel
theorem dX4_carry_1 : decode cX4_carry 1 = .ok (.getfield 11, 3) := by decide +kernel
theorem dX4_carry_4 : decode cX4_carry 4 = .ok (.iload_n 1, 1) := by decide +kernel
theorem dX4_carry_5 : decode cX4_carry 5 = .ok (.aaload, 1) := by decide +kernel
theorem dX4_carry_6 : decode cX4_carry 6 = .ok (.iload_n 2, 1) := by decide +kernel
theorem dX4_carry_7 : decode cX4_carry 7 = .ok (.aload_n 0, 1) := by decide +kernel
theorem dX4_carry_8 : decode cX4_carry 8 = .ok (.getfield 11, 3) := by decide +kernel
theorem dX4_carry_11 : decode cX4_carry 11 = .ok (.iload_n 3, 1) := by decide +kernel
theorem dX4_carry_12 : decode cX4_carry 12 = .ok (.aaload, 1) := by decide +kernel
theorem dX4_carry_13 : decode cX4_carry 13 = .ok (.iload 4, 2) := by decide +kernel
theorem dX4_carry_15 : decode cX4_carry 15 = .ok (.iload 5, 2) := by decide +kernel
theorem dX4_carry_17 : decode cX4_carry 17 = .ok (.invokestatic 30, 3) := by decide +kernel
theorem dX4_carry_20 : decode cX4_carry 20 = .ok (.return_, 1) := by decide +kernel
theorem dX4_heldCount_0 : decode cX4_heldCount 0 = .ok (.iconst 0, 1) := by decide +kernel
theorem dX4_heldCount_1 : decode cX4_heldCount 1 = .ok (.istore_n 2, 1) := by decide +kernel
theorem dX4_heldCount_2 : decode cX4_heldCount 2 = .ok (.iconst 0, 1) := by decide +kernel
theorem dX4_heldCount_3 : decode cX4_heldCount 3 = .ok (.istore_n 3, 1) := by decide +kernel
theorem dX4_heldCount_4 : decode cX4_heldCount 4 = .ok (.iload_n 3, 1) := by decide +kernel
theorem dX4_heldCount_5 : decode cX4_heldCount 5 = .ok (.aload_n 0, 1) := by decide +kernel
theorem dX4_heldCount_6 : decode cX4_heldCount 6 = .ok (.getfield 16, 3) := by decide +kernel
theorem dX4_heldCount_9 : decode cX4_heldCount 9 = .ok (.iload_n 1, 1) := by decide +kernel
theorem dX4_heldCount_10 : decode cX4_heldCount 10 = .ok (.iaload, 1) := by decide +kernel
theorem dX4_heldCount_11 : decode cX4_heldCount 11 = .ok (.if_icmp .ge 25, 3) := by decide +kernel
theorem dX4_heldCount_14 : decode cX4_heldCount 14 = .ok (.aload_n 0, 1) := by decide +kernel
theorem dX4_heldCount_15 : decode cX4_heldCount 15 = .ok (.getfield 11, 3) := by decide +kernel
theorem dX4_heldCount_18 : decode cX4_heldCount 18 = .ok (.iload_n 1, 1) := by decide +kernel
theorem dX4_heldCount_19 : decode cX4_heldCount 19 = .ok (.aaload, 1) := by decide +kernel
theorem dX4_heldCount_20 : decode cX4_heldCount 20 = .ok (.iload_n 3, 1) := by decide +kernel
theorem dX4_heldCount_21 : decode cX4_heldCount 21 = .ok (.iaload, 1) := by decide +kernel
theorem dX4_heldCount_22 : decode cX4_heldCount 22 = .ok (.bipush (-9), 2) := by decide +kernel
theorem dX4_heldCount_24 : decode cX4_heldCount 24 = .ok (.if_icmp .eq 6, 3) := by decide +kernel
theorem dX4_heldCount_27 : decode cX4_heldCount 27 = .ok (.iinc 2 1, 3) := by decide +kernel
theorem dX4_heldCount_30 : decode cX4_heldCount 30 = .ok (.iinc 3 1, 3) := by decide +kernel
theorem dX4_heldCount_33 : decode cX4_heldCount 33 = .ok (.goto (-29), 3) := by decide +kernel
theorem dX4_heldCount_36 : decode cX4_heldCount 36 = .ok (.iload_n 2, 1) := by decide +kernel
theorem dX4_heldCount_37 : decode cX4_heldCount 37 = .ok (.ireturn, 1) := by decide +kernel
theorem dX4_heldSum_0 : decode cX4_heldSum 0 = .ok (.iconst 0, 1) := by decide +kernel
theorem dX4_heldSum_1 : decode cX4_heldSum 1 = .ok (.istore 4, 2) := by decide +kernel
theorem dX4_heldSum_3 : decode cX4_heldSum 3 = .ok (.iload_n 2, 1) := by decide +kernel
theorem dX4_heldSum_4 : decode cX4_heldSum 4 = .ok (.istore 5, 2) := by decide +kernel
theorem dX4_heldSum_6 : decode cX4_heldSum 6 = .ok (.iload 5, 2) := by decide +kernel
theorem dX4_heldSum_8 : decode cX4_heldSum 8 = .ok (.iload_n 2, 1) := by decide +kernel
theorem dX4_heldSum_9 : decode cX4_heldSum 9 = .ok (.iload_n 3, 1) := by decide +kernel
theorem dX4_heldSum_10 : decode cX4_heldSum 10 = .ok (.iadd, 1) := by decide +kernel
theorem dX4_heldSum_11 : decode cX4_heldSum 11 = .ok (.if_icmp .ge 37, 3) := by decide +kernel
theorem dX4_heldSum_14 : decode cX4_heldSum 14 = .ok (.aload_n 0, 1) := by decide +kernel
theorem dX4_heldSum_15 : decode cX4_heldSum 15 = .ok (.getfield 11, 3) := by decide +kernel
theorem dX4_heldSum_18 : decode cX4_heldSum 18 = .ok (.iload_n 1, 1) := by decide +kernel
theorem dX4_heldSum_19 : decode cX4_heldSum 19 = .ok (.aaload, 1) := by decide +kernel
theorem dX4_heldSum_20 : decode cX4_heldSum 20 = .ok (.iload 5, 2) := by decide +kernel
theorem dX4_heldSum_22 : decode cX4_heldSum 22 = .ok (.iaload, 1) := by decide +kernel
theorem dX4_heldSum_23 : decode cX4_heldSum 23 = .ok (.bipush (-9), 2) := by decide +kernel
theorem dX4_heldSum_25 : decode cX4_heldSum 25 = .ok (.if_icmp .eq 17, 3) := by decide +kernel
theorem dX4_heldSum_28 : decode cX4_heldSum 28 = .ok (.iload 4, 2) := by decide +kernel
theorem dX4_heldSum_30 : decode cX4_heldSum 30 = .ok (.aload_n 0, 1) := by decide +kernel
theorem dX4_heldSum_31 : decode cX4_heldSum 31 = .ok (.getfield 11, 3) := by decide +kernel
theorem dX4_heldSum_34 : decode cX4_heldSum 34 = .ok (.iload_n 1, 1) := by decide +kernel
theorem dX4_heldSum_35 : decode cX4_heldSum 35 = .ok (.aaload, 1) := by decide +kernel
theorem dX4_heldSum_36 : decode cX4_heldSum 36 = .ok (.iload 5, 2) := by decide +kernel
theorem dX4_heldSum_38 : decode cX4_heldSum 38 = .ok (.iaload, 1) := by decide +kernel
theorem dX4_heldSum_39 : decode cX4_heldSum 39 = .ok (.iadd, 1) := by decide +kernel
theorem dX4_heldSum_40 : decode cX4_heldSum 40 = .ok (.istore 4, 2) := by decide +kernel
theorem dX4_heldSum_42 : decode cX4_heldSum 42 = .ok (.iinc 5 1, 3) := by decide +kernel
theorem dX4_heldSum_45 : decode cX4_heldSum 45 = .ok (.goto (-39), 3) := by decide +kernel
theorem dX4_heldSum_48 : decode cX4_heldSum 48 = .ok (.iload 4, 2) := by decide +kernel
theorem dX4_heldSum_50 : decode cX4_heldSum 50 = .ok (.ireturn, 1) := by decide +kernel
theorem dX4_mirrorSum_0 : decode cX4_mirrorSum 0 = .ok (.aload_n 0, 1) := by decide +kernel
theorem dX4_mirrorSum_1 : decode cX4_mirrorSum 1 = .ok (.getfield 11, 3) := by decide +kernel
theorem dX4_mirrorSum_4 : decode cX4_mirrorSum 4 = .ok (.iload_n 1, 1) := by decide +kernel
theorem dX4_mirrorSum_5 : decode cX4_mirrorSum 5 = .ok (.aaload, 1) := by decide +kernel
theorem dX4_mirrorSum_6 : decode cX4_mirrorSum 6 = .ok (.iload_n 2, 1) := by decide +kernel
theorem dX4_mirrorSum_7 : decode cX4_mirrorSum 7 = .ok (.iaload, 1) := by decide +kernel
theorem dX4_mirrorSum_8 : decode cX4_mirrorSum 8 = .ok (.aload_n 0, 1) := by decide +kernel
theorem dX4_mirrorSum_9 : decode cX4_mirrorSum 9 = .ok (.getfield 11, 3) := by decide +kernel
theorem dX4_mirrorSum_12 : decode cX4_mirrorSum 12 = .ok (.iload_n 1, 1) := by decide +kernel
theorem dX4_mirrorSum_13 : decode cX4_mirrorSum 13 = .ok (.aaload, 1) := by decide +kernel
theorem dX4_mirrorSum_14 : decode cX4_mirrorSum 14 = .ok (.aload_n 0, 1) := by decide +kernel
theorem dX4_mirrorSum_15 : decode cX4_mirrorSum 15 = .ok (.getfield 16, 3) := by decide +kernel
theorem dX4_mirrorSum_18 : decode cX4_mirrorSum 18 = .ok (.iload_n 1, 1) := by decide +kernel
theorem dX4_mirrorSum_19 : decode cX4_mirrorSum 19 = .ok (.iaload, 1) := by decide +kernel
theorem dX4_mirrorSum_20 : decode cX4_mirrorSum 20 = .ok (.iconst 1, 1) := by decide +kernel
theorem dX4_mirrorSum_21 : decode cX4_mirrorSum 21 = .ok (.isub, 1) := by decide +kernel
theorem dX4_mirrorSum_22 : decode cX4_mirrorSum 22 = .ok (.iload_n 2, 1) := by decide +kernel
theorem dX4_mirrorSum_23 : decode cX4_mirrorSum 23 = .ok (.isub, 1) := by decide +kernel
theorem dX4_mirrorSum_24 : decode cX4_mirrorSum 24 = .ok (.iaload, 1) := by decide +kernel
theorem dX4_mirrorSum_25 : decode cX4_mirrorSum 25 = .ok (.iadd, 1) := by decide +kernel
theorem dX4_mirrorSum_26 : decode cX4_mirrorSum 26 = .ok (.ireturn, 1) := by decide +kernel
set_option maxRecDepth 20000 in
theorem ggX4_longestLevelStart_X4_levelLength : GoodIn wsX4_longestLevelStart wsX4_levelLength := goodIn_r _ [6, 7, 8, 1, 9, 10, 11, 12, 13, 14, 15, 16, 17, 18] (by decide +kernel) (by decide +kernel)
set_option maxRecDepth 20000 in
theorem gX4_longestLevelStart_X4_levelLength : GoodIn wsX4_longestLevelStart (wsV RX4 36 RX4 yX4_levelLength wsX4_levelLength) := goodIn_app (goodIn_of _ (by decide +kernel)) ggX4_longestLevelStart_X4_levelLength
theorem dX4_longestLevelStart_0 : decode cX4_longestLevelStart 0 = .ok (.iconst 0, 1) := by decide +kernel
theorem dX4_longestLevelStart_1 : decode cX4_longestLevelStart 1 = .ok (.istore_n 3, 1) := by decide +kernel
theorem dX4_longestLevelStart_2 : decode cX4_longestLevelStart 2 = .ok (.iconst 0, 1) := by decide +kernel
theorem dX4_longestLevelStart_3 : decode cX4_longestLevelStart 3 = .ok (.istore 4, 2) := by decide +kernel
theorem dX4_longestLevelStart_5 : decode cX4_longestLevelStart 5 = .ok (.iconst 0, 1) := by decide +kernel
theorem dX4_longestLevelStart_6 : decode cX4_longestLevelStart 6 = .ok (.istore 5, 2) := by decide +kernel
theorem dX4_longestLevelStart_8 : decode cX4_longestLevelStart 8 = .ok (.iload 5, 2) := by decide +kernel
theorem dX4_longestLevelStart_10 : decode cX4_longestLevelStart 10 = .ok (.aload_n 0, 1) := by decide +kernel
theorem dX4_longestLevelStart_11 : decode cX4_longestLevelStart 11 = .ok (.getfield 16, 3) := by decide +kernel
theorem dX4_longestLevelStart_14 : decode cX4_longestLevelStart 14 = .ok (.iload_n 1, 1) := by decide +kernel
theorem dX4_longestLevelStart_15 : decode cX4_longestLevelStart 15 = .ok (.iaload, 1) := by decide +kernel
theorem dX4_longestLevelStart_16 : decode cX4_longestLevelStart 16 = .ok (.if_icmp .ge 33, 3) := by decide +kernel
theorem dX4_longestLevelStart_19 : decode cX4_longestLevelStart 19 = .ok (.aload_n 0, 1) := by decide +kernel
theorem dX4_longestLevelStart_20 : decode cX4_longestLevelStart 20 = .ok (.iload_n 1, 1) := by decide +kernel
theorem dX4_longestLevelStart_21 : decode cX4_longestLevelStart 21 = .ok (.iload 5, 2) := by decide +kernel
theorem dX4_longestLevelStart_23 : decode cX4_longestLevelStart 23 = .ok (.iload_n 2, 1) := by decide +kernel
theorem dX4_longestLevelStart_24 : decode cX4_longestLevelStart 24 = .ok (.invokevirtual 36, 3) := by decide +kernel
theorem dX4_longestLevelStart_27 : decode cX4_longestLevelStart 27 = .ok (.istore 6, 2) := by decide +kernel
theorem dX4_longestLevelStart_29 : decode cX4_longestLevelStart 29 = .ok (.iload 6, 2) := by decide +kernel
theorem dX4_longestLevelStart_31 : decode cX4_longestLevelStart 31 = .ok (.iload 4, 2) := by decide +kernel
theorem dX4_longestLevelStart_33 : decode cX4_longestLevelStart 33 = .ok (.if_icmp .le 10, 3) := by decide +kernel
theorem dX4_longestLevelStart_36 : decode cX4_longestLevelStart 36 = .ok (.iload 6, 2) := by decide +kernel
theorem dX4_longestLevelStart_38 : decode cX4_longestLevelStart 38 = .ok (.istore 4, 2) := by decide +kernel
theorem dX4_longestLevelStart_40 : decode cX4_longestLevelStart 40 = .ok (.iload 5, 2) := by decide +kernel
theorem dX4_longestLevelStart_42 : decode cX4_longestLevelStart 42 = .ok (.istore_n 3, 1) := by decide +kernel
theorem dX4_longestLevelStart_43 : decode cX4_longestLevelStart 43 = .ok (.iinc 5 1, 3) := by decide +kernel
theorem dX4_longestLevelStart_46 : decode cX4_longestLevelStart 46 = .ok (.goto (-38), 3) := by decide +kernel
theorem dX4_longestLevelStart_49 : decode cX4_longestLevelStart 49 = .ok (.iload_n 3, 1) := by decide +kernel
theorem dX4_longestLevelStart_50 : decode cX4_longestLevelStart 50 = .ok (.ireturn, 1) := by decide +kernel
theorem dX4_levelLength_0 : decode cX4_levelLength 0 = .ok (.ldc 40, 2) := by decide +kernel
theorem dX4_levelLength_2 : decode cX4_levelLength 2 = .ok (.istore 4, 2) := by decide +kernel
theorem dX4_levelLength_4 : decode cX4_levelLength 4 = .ok (.ldc 41, 2) := by decide +kernel
theorem dX4_levelLength_6 : decode cX4_levelLength 6 = .ok (.istore 5, 2) := by decide +kernel
theorem dX4_levelLength_8 : decode cX4_levelLength 8 = .ok (.iconst 0, 1) := by decide +kernel
theorem dX4_levelLength_9 : decode cX4_levelLength 9 = .ok (.istore 6, 2) := by decide +kernel
theorem dX4_levelLength_11 : decode cX4_levelLength 11 = .ok (.iload_n 2, 1) := by decide +kernel
theorem dX4_levelLength_12 : decode cX4_levelLength 12 = .ok (.istore 7, 2) := by decide +kernel
theorem dX4_levelLength_14 : decode cX4_levelLength 14 = .ok (.iload 7, 2) := by decide +kernel
theorem dX4_levelLength_16 : decode cX4_levelLength 16 = .ok (.aload_n 0, 1) := by decide +kernel
theorem dX4_levelLength_17 : decode cX4_levelLength 17 = .ok (.getfield 16, 3) := by decide +kernel
theorem dX4_levelLength_20 : decode cX4_levelLength 20 = .ok (.iload_n 1, 1) := by decide +kernel
theorem dX4_levelLength_21 : decode cX4_levelLength 21 = .ok (.iaload, 1) := by decide +kernel
theorem dX4_levelLength_22 : decode cX4_levelLength 22 = .ok (.if_icmp .ge 60, 3) := by decide +kernel
theorem dX4_levelLength_25 : decode cX4_levelLength 25 = .ok (.aload_n 0, 1) := by decide +kernel
theorem dX4_levelLength_26 : decode cX4_levelLength 26 = .ok (.getfield 11, 3) := by decide +kernel
theorem dX4_levelLength_29 : decode cX4_levelLength 29 = .ok (.iload_n 1, 1) := by decide +kernel
theorem dX4_levelLength_30 : decode cX4_levelLength 30 = .ok (.aaload, 1) := by decide +kernel
theorem dX4_levelLength_31 : decode cX4_levelLength 31 = .ok (.iload 7, 2) := by decide +kernel
theorem dX4_levelLength_33 : decode cX4_levelLength 33 = .ok (.iaload, 1) := by decide +kernel
theorem dX4_levelLength_34 : decode cX4_levelLength 34 = .ok (.istore 8, 2) := by decide +kernel
theorem dX4_levelLength_36 : decode cX4_levelLength 36 = .ok (.iload 4, 2) := by decide +kernel
theorem dX4_levelLength_38 : decode cX4_levelLength 38 = .ok (.iload 8, 2) := by decide +kernel
theorem dX4_levelLength_40 : decode cX4_levelLength 40 = .ok (.invokestatic 42, 3) := by decide +kernel
theorem dX4_levelLength_43 : decode cX4_levelLength 43 = .ok (.istore 4, 2) := by decide +kernel
theorem dX4_levelLength_45 : decode cX4_levelLength 45 = .ok (.iload 5, 2) := by decide +kernel
theorem dX4_levelLength_47 : decode cX4_levelLength 47 = .ok (.iload 8, 2) := by decide +kernel
theorem dX4_levelLength_49 : decode cX4_levelLength 49 = .ok (.invokestatic 48, 3) := by decide +kernel
theorem dX4_levelLength_52 : decode cX4_levelLength 52 = .ok (.istore 5, 2) := by decide +kernel
theorem dX4_levelLength_54 : decode cX4_levelLength 54 = .ok (.iload 8, 2) := by decide +kernel
theorem dX4_levelLength_56 : decode cX4_levelLength 56 = .ok (.bipush (-9), 2) := by decide +kernel
theorem dX4_levelLength_58 : decode cX4_levelLength 58 = .ok (.if_icmp .eq 24, 3) := by decide +kernel
theorem dX4_levelLength_61 : decode cX4_levelLength 61 = .ok (.iload 5, 2) := by decide +kernel
theorem dX4_levelLength_63 : decode cX4_levelLength 63 = .ok (.iload 4, 2) := by decide +kernel
theorem dX4_levelLength_65 : decode cX4_levelLength 65 = .ok (.isub, 1) := by decide +kernel
theorem dX4_levelLength_66 : decode cX4_levelLength 66 = .ok (.iload_n 3, 1) := by decide +kernel
theorem dX4_levelLength_67 : decode cX4_levelLength 67 = .ok (.if_icmp .le 6, 3) := by decide +kernel
theorem dX4_levelLength_70 : decode cX4_levelLength 70 = .ok (.goto 12, 3) := by decide +kernel
theorem dX4_levelLength_73 : decode cX4_levelLength 73 = .ok (.iinc 6 1, 3) := by decide +kernel
theorem dX4_levelLength_76 : decode cX4_levelLength 76 = .ok (.iinc 7 1, 3) := by decide +kernel
theorem dX4_levelLength_79 : decode cX4_levelLength 79 = .ok (.goto (-65), 3) := by decide +kernel
theorem dX4_levelLength_82 : decode cX4_levelLength 82 = .ok (.iload 6, 2) := by decide +kernel
theorem dX4_levelLength_84 : decode cX4_levelLength 84 = .ok (.ireturn, 1) := by decide +kernel
theorem dX4_presentCount_0 : decode cX4_presentCount 0 = .ok (.iconst 0, 1) := by decide +kernel
theorem dX4_presentCount_1 : decode cX4_presentCount 1 = .ok (.istore_n 1, 1) := by decide +kernel
theorem dX4_presentCount_2 : decode cX4_presentCount 2 = .ok (.iconst 0, 1) := by decide +kernel
theorem dX4_presentCount_3 : decode cX4_presentCount 3 = .ok (.istore_n 2, 1) := by decide +kernel
theorem dX4_presentCount_4 : decode cX4_presentCount 4 = .ok (.iload_n 2, 1) := by decide +kernel
theorem dX4_presentCount_5 : decode cX4_presentCount 5 = .ok (.bipush 6, 2) := by decide +kernel
theorem dX4_presentCount_7 : decode cX4_presentCount 7 = .ok (.if_icmp .ge 22, 3) := by decide +kernel
theorem dX4_presentCount_10 : decode cX4_presentCount 10 = .ok (.aload_n 0, 1) := by decide +kernel
theorem dX4_presentCount_11 : decode cX4_presentCount 11 = .ok (.getfield 16, 3) := by decide +kernel
theorem dX4_presentCount_14 : decode cX4_presentCount 14 = .ok (.iload_n 2, 1) := by decide +kernel
theorem dX4_presentCount_15 : decode cX4_presentCount 15 = .ok (.iaload, 1) := by decide +kernel
theorem dX4_presentCount_16 : decode cX4_presentCount 16 = .ok (.iconst (-1), 1) := by decide +kernel
theorem dX4_presentCount_17 : decode cX4_presentCount 17 = .ok (.if_icmp .eq 6, 3) := by decide +kernel
theorem dX4_presentCount_20 : decode cX4_presentCount 20 = .ok (.iinc 1 1, 3) := by decide +kernel
theorem dX4_presentCount_23 : decode cX4_presentCount 23 = .ok (.iinc 2 1, 3) := by decide +kernel
theorem dX4_presentCount_26 : decode cX4_presentCount 26 = .ok (.goto (-22), 3) := by decide +kernel
theorem dX4_presentCount_29 : decode cX4_presentCount 29 = .ok (.iload_n 1, 1) := by decide +kernel
theorem dX4_presentCount_30 : decode cX4_presentCount 30 = .ok (.ireturn, 1) := by decide +kernel
theorem dX4_digestOn_0 : decode cX4_digestOn 0 = .ok (.ldc2_w 51, 3) := by decide +kernel
theorem dX4_digestOn_3 : decode cX4_digestOn 3 = .ok (.lload_n 1, 1) := by decide +kernel
theorem dX4_digestOn_4 : decode cX4_digestOn 4 = .ok (.lmul, 1) := by decide +kernel
theorem dX4_digestOn_5 : decode cX4_digestOn 5 = .ok (.aload_n 0, 1) := by decide +kernel
theorem dX4_digestOn_6 : decode cX4_digestOn 6 = .ok (.getfield 16, 3) := by decide +kernel
theorem dX4_digestOn_9 : decode cX4_digestOn 9 = .ok (.iload_n 3, 1) := by decide +kernel
theorem dX4_digestOn_10 : decode cX4_digestOn 10 = .ok (.iaload, 1) := by decide +kernel
theorem dX4_digestOn_11 : decode cX4_digestOn 11 = .ok (.i2l, 1) := by decide +kernel
theorem dX4_digestOn_12 : decode cX4_digestOn 12 = .ok (.ladd, 1) := by decide +kernel
theorem dX4_digestOn_13 : decode cX4_digestOn 13 = .ok (.lstore 4, 2) := by decide +kernel
theorem dX4_digestOn_15 : decode cX4_digestOn 15 = .ok (.iconst 0, 1) := by decide +kernel
theorem dX4_digestOn_16 : decode cX4_digestOn 16 = .ok (.istore 6, 2) := by decide +kernel
theorem dX4_digestOn_18 : decode cX4_digestOn 18 = .ok (.iload 6, 2) := by decide +kernel
theorem dX4_digestOn_20 : decode cX4_digestOn 20 = .ok (.aload_n 0, 1) := by decide +kernel
theorem dX4_digestOn_21 : decode cX4_digestOn 21 = .ok (.getfield 16, 3) := by decide +kernel
theorem dX4_digestOn_24 : decode cX4_digestOn 24 = .ok (.iload_n 3, 1) := by decide +kernel
theorem dX4_digestOn_25 : decode cX4_digestOn 25 = .ok (.iaload, 1) := by decide +kernel
theorem dX4_digestOn_26 : decode cX4_digestOn 26 = .ok (.if_icmp .ge 28, 3) := by decide +kernel
theorem dX4_digestOn_29 : decode cX4_digestOn 29 = .ok (.ldc2_w 51, 3) := by decide +kernel
theorem dX4_digestOn_32 : decode cX4_digestOn 32 = .ok (.lload 4, 2) := by decide +kernel
theorem dX4_digestOn_34 : decode cX4_digestOn 34 = .ok (.lmul, 1) := by decide +kernel
theorem dX4_digestOn_35 : decode cX4_digestOn 35 = .ok (.aload_n 0, 1) := by decide +kernel
theorem dX4_digestOn_36 : decode cX4_digestOn 36 = .ok (.getfield 11, 3) := by decide +kernel
theorem dX4_digestOn_39 : decode cX4_digestOn 39 = .ok (.iload_n 3, 1) := by decide +kernel
theorem dX4_digestOn_40 : decode cX4_digestOn 40 = .ok (.aaload, 1) := by decide +kernel
theorem dX4_digestOn_41 : decode cX4_digestOn 41 = .ok (.iload 6, 2) := by decide +kernel
theorem dX4_digestOn_43 : decode cX4_digestOn 43 = .ok (.iaload, 1) := by decide +kernel
theorem dX4_digestOn_44 : decode cX4_digestOn 44 = .ok (.i2l, 1) := by decide +kernel
theorem dX4_digestOn_45 : decode cX4_digestOn 45 = .ok (.ladd, 1) := by decide +kernel
theorem dX4_digestOn_46 : decode cX4_digestOn 46 = .ok (.lstore 4, 2) := by decide +kernel
theorem dX4_digestOn_48 : decode cX4_digestOn 48 = .ok (.iinc 6 1, 3) := by decide +kernel
theorem dX4_digestOn_51 : decode cX4_digestOn 51 = .ok (.goto (-33), 3) := by decide +kernel
theorem dX4_digestOn_54 : decode cX4_digestOn 54 = .ok (.lload 4, 2) := by decide +kernel
theorem dX4_digestOn_56 : decode cX4_digestOn 56 = .ok (.lreturn, 1) := by decide +kernel
theorem dX5_init_0 : decode cX5_init 0 = .ok (.aload_n 0, 1) := by decide +kernel
theorem dX5_init_1 : decode cX5_init 1 = .ok (.invokespecial 3, 3) := by decide +kernel
theorem dX5_init_4 : decode cX5_init 4 = .ok (.aload_n 0, 1) := by decide +kernel
theorem dX5_init_5 : decode cX5_init 5 = .ok (.iconst 4, 1) := by decide +kernel
theorem dX5_init_6 : decode cX5_init 6 = .ok (.iconst 4, 1) := by decide +kernel
theorem dX5_init_7 : decode cX5_init 7 = .ok (.multianewarray 9 2, 4) := by decide +kernel
theorem dX5_init_11 : decode cX5_init 11 = .ok (.putfield 11, 3) := by decide +kernel
theorem dX5_init_14 : decode cX5_init 14 = .ok (.aload_n 0, 1) := by decide +kernel
theorem dX5_init_15 : decode cX5_init 15 = .ok (.iconst 4, 1) := by decide +kernel
theorem dX5_init_16 : decode cX5_init 16 = .ok (.iconst 4, 1) := by decide +kernel
theorem dX5_init_17 : decode cX5_init 17 = .ok (.multianewarray 9 2, 4) := by decide +kernel
theorem dX5_init_21 : decode cX5_init 21 = .ok (.putfield 16, 3) := by decide +kernel
theorem dX5_init_24 : decode cX5_init 24 = .ok (.aload_n 0, 1) := by decide +kernel
theorem dX5_init_25 : decode cX5_init 25 = .ok (.iconst 4, 1) := by decide +kernel
theorem dX5_init_26 : decode cX5_init 26 = .ok (.newarray .int, 2) := by decide +kernel
theorem dX5_init_28 : decode cX5_init 28 = .ok (.putfield 19, 3) := by decide +kernel
theorem dX5_init_31 : decode cX5_init 31 = .ok (.return_, 1) := by decide +kernel
theorem dX5_sizeOf_0 : decode cX5_sizeOf 0 = .ok (.aload_n 0, 1) := by decide +kernel
theorem dX5_sizeOf_1 : decode cX5_sizeOf 1 = .ok (.getfield 19, 3) := by decide +kernel
theorem dX5_sizeOf_4 : decode cX5_sizeOf 4 = .ok (.iload_n 1, 1) := by decide +kernel
theorem dX5_sizeOf_5 : decode cX5_sizeOf 5 = .ok (.iaload, 1) := by decide +kernel
theorem dX5_sizeOf_6 : decode cX5_sizeOf 6 = .ok (.ireturn, 1) := by decide +kernel
theorem dX5_hasX_0 : decode cX5_hasX 0 = .ok (.iconst 0, 1) := by decide +kernel
theorem dX5_hasX_1 : decode cX5_hasX 1 = .ok (.istore_n 3, 1) := by decide +kernel
theorem dX5_hasX_2 : decode cX5_hasX 2 = .ok (.iload_n 3, 1) := by decide +kernel
theorem dX5_hasX_3 : decode cX5_hasX 3 = .ok (.aload_n 0, 1) := by decide +kernel
theorem dX5_hasX_4 : decode cX5_hasX 4 = .ok (.getfield 19, 3) := by decide +kernel
theorem dX5_hasX_7 : decode cX5_hasX 7 = .ok (.iload_n 1, 1) := by decide +kernel
theorem dX5_hasX_8 : decode cX5_hasX 8 = .ok (.iaload, 1) := by decide +kernel
theorem dX5_hasX_9 : decode cX5_hasX 9 = .ok (.if_icmp .ge 23, 3) := by decide +kernel
theorem dX5_hasX_12 : decode cX5_hasX 12 = .ok (.aload_n 0, 1) := by decide +kernel
theorem dX5_hasX_13 : decode cX5_hasX 13 = .ok (.getfield 11, 3) := by decide +kernel
theorem dX5_hasX_16 : decode cX5_hasX 16 = .ok (.iload_n 1, 1) := by decide +kernel
theorem dX5_hasX_17 : decode cX5_hasX 17 = .ok (.aaload, 1) := by decide +kernel
theorem dX5_hasX_18 : decode cX5_hasX 18 = .ok (.iload_n 3, 1) := by decide +kernel
theorem dX5_hasX_19 : decode cX5_hasX 19 = .ok (.iaload, 1) := by decide +kernel
theorem dX5_hasX_20 : decode cX5_hasX 20 = .ok (.iload_n 2, 1) := by decide +kernel
theorem dX5_hasX_21 : decode cX5_hasX 21 = .ok (.if_icmp .ne 5, 3) := by decide +kernel
theorem dX5_hasX_24 : decode cX5_hasX 24 = .ok (.iconst 1, 1) := by decide +kernel
theorem dX5_hasX_25 : decode cX5_hasX 25 = .ok (.ireturn, 1) := by decide +kernel
theorem dX5_hasX_26 : decode cX5_hasX 26 = .ok (.iinc 3 1, 3) := by decide +kernel
theorem dX5_hasX_29 : decode cX5_hasX 29 = .ok (.goto (-27), 3) := by decide +kernel
theorem dX5_hasX_32 : decode cX5_hasX 32 = .ok (.iconst 0, 1) := by decide +kernel
theorem dX5_hasX_33 : decode cX5_hasX 33 = .ok (.ireturn, 1) := by decide +kernel
theorem dX5_add_0 : decode cX5_add 0 = .ok (.aload_n 0, 1) := by decide +kernel
theorem dX5_add_1 : decode cX5_add 1 = .ok (.getfield 19, 3) := by decide +kernel
theorem dX5_add_4 : decode cX5_add 4 = .ok (.iload_n 1, 1) := by decide +kernel
theorem dX5_add_5 : decode cX5_add 5 = .ok (.iaload, 1) := by decide +kernel
theorem dX5_add_6 : decode cX5_add 6 = .ok (.istore 4, 2) := by decide +kernel
theorem dX5_add_8 : decode cX5_add 8 = .ok (.aload_n 0, 1) := by decide +kernel
theorem dX5_add_9 : decode cX5_add 9 = .ok (.getfield 11, 3) := by decide +kernel
theorem dX5_add_12 : decode cX5_add 12 = .ok (.iload_n 1, 1) := by decide +kernel
theorem dX5_add_13 : decode cX5_add 13 = .ok (.aaload, 1) := by decide +kernel
theorem dX5_add_14 : decode cX5_add 14 = .ok (.iload 4, 2) := by decide +kernel
theorem dX5_add_16 : decode cX5_add 16 = .ok (.iload_n 2, 1) := by decide +kernel
theorem dX5_add_17 : decode cX5_add 17 = .ok (.iastore, 1) := by decide +kernel
theorem dX5_add_18 : decode cX5_add 18 = .ok (.aload_n 0, 1) := by decide +kernel
theorem dX5_add_19 : decode cX5_add 19 = .ok (.getfield 16, 3) := by decide +kernel
theorem dX5_add_22 : decode cX5_add 22 = .ok (.iload_n 1, 1) := by decide +kernel
theorem dX5_add_23 : decode cX5_add 23 = .ok (.aaload, 1) := by decide +kernel
theorem dX5_add_24 : decode cX5_add 24 = .ok (.iload 4, 2) := by decide +kernel
theorem dX5_add_26 : decode cX5_add 26 = .ok (.iload_n 3, 1) := by decide +kernel
theorem dX5_add_27 : decode cX5_add 27 = .ok (.iastore, 1) := by decide +kernel
theorem dX5_add_28 : decode cX5_add 28 = .ok (.aload_n 0, 1) := by decide +kernel
theorem dX5_add_29 : decode cX5_add 29 = .ok (.getfield 19, 3) := by decide +kernel
theorem dX5_add_32 : decode cX5_add 32 = .ok (.iload_n 1, 1) := by decide +kernel
theorem dX5_add_33 : decode cX5_add 33 = .ok (.iload 4, 2) := by decide +kernel
theorem dX5_add_35 : decode cX5_add 35 = .ok (.iconst 1, 1) := by decide +kernel
theorem dX5_add_36 : decode cX5_add 36 = .ok (.iadd, 1) := by decide +kernel
theorem dX5_add_37 : decode cX5_add 37 = .ok (.iastore, 1) := by decide +kernel
theorem dX5_add_38 : decode cX5_add 38 = .ok (.iload 4, 2) := by decide +kernel
theorem dX5_add_40 : decode cX5_add 40 = .ok (.iconst 1, 1) := by decide +kernel
theorem dX5_add_41 : decode cX5_add 41 = .ok (.iadd, 1) := by decide +kernel
theorem dX5_add_42 : decode cX5_add 42 = .ok (.ireturn, 1) := by decide +kernel
theorem dX5_empty_0 : decode cX5_empty 0 = .ok (.aload_n 0, 1) := by decide +kernel
theorem dX5_empty_1 : decode cX5_empty 1 = .ok (.getfield 19, 3) := by decide +kernel
theorem dX5_empty_4 : decode cX5_empty 4 = .ok (.iload_n 1, 1) := by decide +kernel
theorem dX5_empty_5 : decode cX5_empty 5 = .ok (.iaload, 1) := by decide +kernel
theorem dX5_empty_6 : decode cX5_empty 6 = .ok (.istore_n 2, 1) := by decide +kernel
theorem dX5_empty_7 : decode cX5_empty 7 = .ok (.aload_n 0, 1) := by decide +kernel
theorem dX5_empty_8 : decode cX5_empty 8 = .ok (.getfield 19, 3) := by decide +kernel
theorem dX5_empty_11 : decode cX5_empty 11 = .ok (.iload_n 1, 1) := by decide +kernel
theorem dX5_empty_12 : decode cX5_empty 12 = .ok (.iconst 0, 1) := by decide +kernel
theorem dX5_empty_13 : decode cX5_empty 13 = .ok (.iastore, 1) := by decide +kernel
theorem dX5_empty_14 : decode cX5_empty 14 = .ok (.iload_n 2, 1) := by decide +kernel
theorem dX5_empty_15 : decode cX5_empty 15 = .ok (.ireturn, 1) := by decide +kernel
theorem dX5_pointCount_0 : decode cX5_pointCount 0 = .ok (.iconst 0, 1) := by decide +kernel
theorem dX5_pointCount_1 : decode cX5_pointCount 1 = .ok (.istore_n 1, 1) := by decide +kernel
theorem dX5_pointCount_2 : decode cX5_pointCount 2 = .ok (.iconst 0, 1) := by decide +kernel
theorem dX5_pointCount_3 : decode cX5_pointCount 3 = .ok (.istore_n 2, 1) := by decide +kernel
theorem dX5_pointCount_4 : decode cX5_pointCount 4 = .ok (.iload_n 2, 1) := by decide +kernel
theorem dX5_pointCount_5 : decode cX5_pointCount 5 = .ok (.iconst 4, 1) := by decide +kernel
theorem dX5_pointCount_6 : decode cX5_pointCount 6 = .ok (.if_icmp .ge 18, 3) := by decide +kernel
theorem dX5_pointCount_9 : decode cX5_pointCount 9 = .ok (.iload_n 1, 1) := by decide +kernel
theorem dX5_pointCount_10 : decode cX5_pointCount 10 = .ok (.aload_n 0, 1) := by decide +kernel
theorem dX5_pointCount_11 : decode cX5_pointCount 11 = .ok (.getfield 19, 3) := by decide +kernel
theorem dX5_pointCount_14 : decode cX5_pointCount 14 = .ok (.iload_n 2, 1) := by decide +kernel
theorem dX5_pointCount_15 : decode cX5_pointCount 15 = .ok (.iaload, 1) := by decide +kernel
theorem dX5_pointCount_16 : decode cX5_pointCount 16 = .ok (.iadd, 1) := by decide +kernel
theorem dX5_pointCount_17 : decode cX5_pointCount 17 = .ok (.istore_n 1, 1) := by decide +kernel
theorem dX5_pointCount_18 : decode cX5_pointCount 18 = .ok (.iinc 2 1, 3) := by decide +kernel
theorem dX5_pointCount_21 : decode cX5_pointCount 21 = .ok (.goto (-17), 3) := by decide +kernel
theorem dX5_pointCount_24 : decode cX5_pointCount 24 = .ok (.iload_n 1, 1) := by decide +kernel
theorem dX5_pointCount_25 : decode cX5_pointCount 25 = .ok (.ireturn, 1) := by decide +kernel
set_option maxRecDepth 20000 in
theorem ggX5_commonLower_X5_productWithout : GoodIn wsX5_commonLower wsX5_productWithout := goodIn_r _ [7, 1, 2, 18, 19, 20] (by decide +kernel) (by decide +kernel)
set_option maxRecDepth 20000 in
theorem gX5_commonLower_X5_productWithout : GoodIn wsX5_commonLower (wsV RX5 23 RX5 yX5_productWithout wsX5_productWithout) := goodIn_app (goodIn_of _ (by decide +kernel)) ggX5_commonLower_X5_productWithout
set_option maxRecDepth 20000 in
theorem ggX5_commonLower_X6_leastMultiple : GoodIn wsX5_commonLower wsX6_leastMultiple := goodIn_r _ [10, 11, 12, 13, 14, 15, 16, 9, 17] (by decide +kernel) (by decide +kernel)
set_option maxRecDepth 20000 in
theorem gX5_commonLower_X6_leastMultiple_n27 : GoodIn wsX5_commonLower (wsX6_leastMultiple) := ggX5_commonLower_X6_leastMultiple
theorem dX5_commonLower_0 : decode cX5_commonLower 0 = .ok (.lconst 1, 1) := by decide +kernel
theorem dX5_commonLower_1 : decode cX5_commonLower 1 = .ok (.lstore_n 2, 1) := by decide +kernel
theorem dX5_commonLower_2 : decode cX5_commonLower 2 = .ok (.iconst 0, 1) := by decide +kernel
theorem dX5_commonLower_3 : decode cX5_commonLower 3 = .ok (.istore 4, 2) := by decide +kernel
theorem dX5_commonLower_5 : decode cX5_commonLower 5 = .ok (.iload 4, 2) := by decide +kernel
theorem dX5_commonLower_7 : decode cX5_commonLower 7 = .ok (.aload_n 0, 1) := by decide +kernel
theorem dX5_commonLower_8 : decode cX5_commonLower 8 = .ok (.getfield 19, 3) := by decide +kernel
theorem dX5_commonLower_11 : decode cX5_commonLower 11 = .ok (.iload_n 1, 1) := by decide +kernel
theorem dX5_commonLower_12 : decode cX5_commonLower 12 = .ok (.iaload, 1) := by decide +kernel
theorem dX5_commonLower_13 : decode cX5_commonLower 13 = .ok (.if_icmp .ge 30, 3) := by decide +kernel
theorem dX5_commonLower_16 : decode cX5_commonLower 16 = .ok (.lload_n 2, 1) := by decide +kernel
theorem dX5_commonLower_17 : decode cX5_commonLower 17 = .ok (.aload_n 0, 1) := by decide +kernel
theorem dX5_commonLower_18 : decode cX5_commonLower 18 = .ok (.iload_n 1, 1) := by decide +kernel
theorem dX5_commonLower_19 : decode cX5_commonLower 19 = .ok (.iload 4, 2) := by decide +kernel
theorem dX5_commonLower_21 : decode cX5_commonLower 21 = .ok (.aload_n 0, 1) := by decide +kernel
theorem dX5_commonLower_22 : decode cX5_commonLower 22 = .ok (.getfield 11, 3) := by decide +kernel
theorem dX5_commonLower_25 : decode cX5_commonLower 25 = .ok (.iload_n 1, 1) := by decide +kernel
theorem dX5_commonLower_26 : decode cX5_commonLower 26 = .ok (.aaload, 1) := by decide +kernel
theorem dX5_commonLower_27 : decode cX5_commonLower 27 = .ok (.iload 4, 2) := by decide +kernel
theorem dX5_commonLower_29 : decode cX5_commonLower 29 = .ok (.iaload, 1) := by decide +kernel
theorem dX5_commonLower_30 : decode cX5_commonLower 30 = .ok (.invokevirtual 23, 3) := by decide +kernel
theorem dX5_commonLower_33 : decode cX5_commonLower 33 = .ok (.invokestatic 27, 3) := by decide +kernel
theorem dX5_commonLower_36 : decode cX5_commonLower 36 = .ok (.lstore_n 2, 1) := by decide +kernel
theorem dX5_commonLower_37 : decode cX5_commonLower 37 = .ok (.iinc 4 1, 3) := by decide +kernel
theorem dX5_commonLower_40 : decode cX5_commonLower 40 = .ok (.goto (-35), 3) := by decide +kernel
theorem dX5_commonLower_43 : decode cX5_commonLower 43 = .ok (.lload_n 2, 1) := by decide +kernel
theorem dX5_commonLower_44 : decode cX5_commonLower 44 = .ok (.lreturn, 1) := by decide +kernel
set_option maxRecDepth 20000 in
theorem ggX5_worthAt_X5_productWithout : GoodIn wsX5_worthAt wsX5_productWithout := goodIn_r _ [8, 1, 2, 9, 10, 11] (by decide +kernel) (by decide +kernel)
set_option maxRecDepth 20000 in
theorem gX5_worthAt_X5_productWithout : GoodIn wsX5_worthAt (wsV RX5 23 RX5 yX5_productWithout wsX5_productWithout) := goodIn_app (goodIn_of _ (by decide +kernel)) ggX5_worthAt_X5_productWithout
theorem dX5_worthAt_0 : decode cX5_worthAt 0 = .ok (.lconst 0, 1) := by decide +kernel
theorem dX5_worthAt_1 : decode cX5_worthAt 1 = .ok (.lstore 5, 2) := by decide +kernel
theorem dX5_worthAt_3 : decode cX5_worthAt 3 = .ok (.iconst 0, 1) := by decide +kernel
theorem dX5_worthAt_4 : decode cX5_worthAt 4 = .ok (.istore 7, 2) := by decide +kernel
theorem dX5_worthAt_6 : decode cX5_worthAt 6 = .ok (.iload 7, 2) := by decide +kernel
theorem dX5_worthAt_8 : decode cX5_worthAt 8 = .ok (.aload_n 0, 1) := by decide +kernel
theorem dX5_worthAt_9 : decode cX5_worthAt 9 = .ok (.getfield 19, 3) := by decide +kernel
theorem dX5_worthAt_12 : decode cX5_worthAt 12 = .ok (.iload_n 1, 1) := by decide +kernel
theorem dX5_worthAt_13 : decode cX5_worthAt 13 = .ok (.iaload, 1) := by decide +kernel
theorem dX5_worthAt_14 : decode cX5_worthAt 14 = .ok (.if_icmp .ge 63, 3) := by decide +kernel
theorem dX5_worthAt_17 : decode cX5_worthAt 17 = .ok (.aload_n 0, 1) := by decide +kernel
theorem dX5_worthAt_18 : decode cX5_worthAt 18 = .ok (.iload_n 1, 1) := by decide +kernel
theorem dX5_worthAt_19 : decode cX5_worthAt 19 = .ok (.iload 7, 2) := by decide +kernel
theorem dX5_worthAt_21 : decode cX5_worthAt 21 = .ok (.aload_n 0, 1) := by decide +kernel
theorem dX5_worthAt_22 : decode cX5_worthAt 22 = .ok (.getfield 11, 3) := by decide +kernel
theorem dX5_worthAt_25 : decode cX5_worthAt 25 = .ok (.iload_n 1, 1) := by decide +kernel
theorem dX5_worthAt_26 : decode cX5_worthAt 26 = .ok (.aaload, 1) := by decide +kernel
theorem dX5_worthAt_27 : decode cX5_worthAt 27 = .ok (.iload 7, 2) := by decide +kernel
theorem dX5_worthAt_29 : decode cX5_worthAt 29 = .ok (.iaload, 1) := by decide +kernel
theorem dX5_worthAt_30 : decode cX5_worthAt 30 = .ok (.invokevirtual 23, 3) := by decide +kernel
theorem dX5_worthAt_33 : decode cX5_worthAt 33 = .ok (.lstore 8, 2) := by decide +kernel
theorem dX5_worthAt_35 : decode cX5_worthAt 35 = .ok (.lload 8, 2) := by decide +kernel
theorem dX5_worthAt_37 : decode cX5_worthAt 37 = .ok (.lconst 0, 1) := by decide +kernel
theorem dX5_worthAt_38 : decode cX5_worthAt 38 = .ok (.lcmp, 1) := by decide +kernel
theorem dX5_worthAt_39 : decode cX5_worthAt 39 = .ok (.ifCond .eq 32, 3) := by decide +kernel
theorem dX5_worthAt_42 : decode cX5_worthAt 42 = .ok (.lload 5, 2) := by decide +kernel
theorem dX5_worthAt_44 : decode cX5_worthAt 44 = .ok (.lload_n 3, 1) := by decide +kernel
theorem dX5_worthAt_45 : decode cX5_worthAt 45 = .ok (.lload 8, 2) := by decide +kernel
theorem dX5_worthAt_47 : decode cX5_worthAt 47 = .ok (.ldiv, 1) := by decide +kernel
theorem dX5_worthAt_48 : decode cX5_worthAt 48 = .ok (.aload_n 0, 1) := by decide +kernel
theorem dX5_worthAt_49 : decode cX5_worthAt 49 = .ok (.iload_n 1, 1) := by decide +kernel
theorem dX5_worthAt_50 : decode cX5_worthAt 50 = .ok (.iload 7, 2) := by decide +kernel
theorem dX5_worthAt_52 : decode cX5_worthAt 52 = .ok (.iload_n 2, 1) := by decide +kernel
theorem dX5_worthAt_53 : decode cX5_worthAt 53 = .ok (.invokevirtual 23, 3) := by decide +kernel
theorem dX5_worthAt_56 : decode cX5_worthAt 56 = .ok (.lmul, 1) := by decide +kernel
theorem dX5_worthAt_57 : decode cX5_worthAt 57 = .ok (.aload_n 0, 1) := by decide +kernel
theorem dX5_worthAt_58 : decode cX5_worthAt 58 = .ok (.getfield 16, 3) := by decide +kernel
theorem dX5_worthAt_61 : decode cX5_worthAt 61 = .ok (.iload_n 1, 1) := by decide +kernel
theorem dX5_worthAt_62 : decode cX5_worthAt 62 = .ok (.aaload, 1) := by decide +kernel
theorem dX5_worthAt_63 : decode cX5_worthAt 63 = .ok (.iload 7, 2) := by decide +kernel
theorem dX5_worthAt_65 : decode cX5_worthAt 65 = .ok (.iaload, 1) := by decide +kernel
theorem dX5_worthAt_66 : decode cX5_worthAt 66 = .ok (.i2l, 1) := by decide +kernel
theorem dX5_worthAt_67 : decode cX5_worthAt 67 = .ok (.lmul, 1) := by decide +kernel
theorem dX5_worthAt_68 : decode cX5_worthAt 68 = .ok (.ladd, 1) := by decide +kernel
theorem dX5_worthAt_69 : decode cX5_worthAt 69 = .ok (.lstore 5, 2) := by decide +kernel
theorem dX5_worthAt_71 : decode cX5_worthAt 71 = .ok (.iinc 7 1, 3) := by decide +kernel
theorem dX5_worthAt_74 : decode cX5_worthAt 74 = .ok (.goto (-68), 3) := by decide +kernel
theorem dX5_worthAt_77 : decode cX5_worthAt 77 = .ok (.lload 5, 2) := by decide +kernel
theorem dX5_worthAt_79 : decode cX5_worthAt 79 = .ok (.lreturn, 1) := by decide +kernel
theorem dX5_productWithout_0 : decode cX5_productWithout 0 = .ok (.lconst 1, 1) := by decide +kernel
theorem dX5_productWithout_1 : decode cX5_productWithout 1 = .ok (.lstore 4, 2) := by decide +kernel
theorem dX5_productWithout_3 : decode cX5_productWithout 3 = .ok (.iconst 0, 1) := by decide +kernel
theorem dX5_productWithout_4 : decode cX5_productWithout 4 = .ok (.istore 6, 2) := by decide +kernel
theorem dX5_productWithout_6 : decode cX5_productWithout 6 = .ok (.iload 6, 2) := by decide +kernel
theorem dX5_productWithout_8 : decode cX5_productWithout 8 = .ok (.aload_n 0, 1) := by decide +kernel
theorem dX5_productWithout_9 : decode cX5_productWithout 9 = .ok (.getfield 19, 3) := by decide +kernel
theorem dX5_productWithout_12 : decode cX5_productWithout 12 = .ok (.iload_n 1, 1) := by decide +kernel
theorem dX5_productWithout_13 : decode cX5_productWithout 13 = .ok (.iaload, 1) := by decide +kernel
theorem dX5_productWithout_14 : decode cX5_productWithout 14 = .ok (.if_icmp .ge 32, 3) := by decide +kernel
theorem dX5_productWithout_17 : decode cX5_productWithout 17 = .ok (.iload 6, 2) := by decide +kernel
theorem dX5_productWithout_19 : decode cX5_productWithout 19 = .ok (.iload_n 2, 1) := by decide +kernel
theorem dX5_productWithout_20 : decode cX5_productWithout 20 = .ok (.if_icmp .eq 20, 3) := by decide +kernel
theorem dX5_productWithout_23 : decode cX5_productWithout 23 = .ok (.lload 4, 2) := by decide +kernel
theorem dX5_productWithout_25 : decode cX5_productWithout 25 = .ok (.iload_n 3, 1) := by decide +kernel
theorem dX5_productWithout_26 : decode cX5_productWithout 26 = .ok (.aload_n 0, 1) := by decide +kernel
theorem dX5_productWithout_27 : decode cX5_productWithout 27 = .ok (.getfield 11, 3) := by decide +kernel
theorem dX5_productWithout_30 : decode cX5_productWithout 30 = .ok (.iload_n 1, 1) := by decide +kernel
theorem dX5_productWithout_31 : decode cX5_productWithout 31 = .ok (.aaload, 1) := by decide +kernel
theorem dX5_productWithout_32 : decode cX5_productWithout 32 = .ok (.iload 6, 2) := by decide +kernel
theorem dX5_productWithout_34 : decode cX5_productWithout 34 = .ok (.iaload, 1) := by decide +kernel
theorem dX5_productWithout_35 : decode cX5_productWithout 35 = .ok (.isub, 1) := by decide +kernel
theorem dX5_productWithout_36 : decode cX5_productWithout 36 = .ok (.i2l, 1) := by decide +kernel
theorem dX5_productWithout_37 : decode cX5_productWithout 37 = .ok (.lmul, 1) := by decide +kernel
theorem dX5_productWithout_38 : decode cX5_productWithout 38 = .ok (.lstore 4, 2) := by decide +kernel
theorem dX5_productWithout_40 : decode cX5_productWithout 40 = .ok (.iinc 6 1, 3) := by decide +kernel
theorem dX5_productWithout_43 : decode cX5_productWithout 43 = .ok (.goto (-37), 3) := by decide +kernel
theorem dX5_productWithout_46 : decode cX5_productWithout 46 = .ok (.lload 4, 2) := by decide +kernel
theorem dX5_productWithout_48 : decode cX5_productWithout 48 = .ok (.lreturn, 1) := by decide +kernel
set_option maxRecDepth 20000 in
theorem ggX6_init_X4_init : GoodIn wsX6_init wsX4_init := goodIn_r _ [34, 35, 2, 3, 36, 28, 37, 38, 39, 40, 41, 42, 79, 80] (by decide +kernel) (by decide +kernel)
set_option maxRecDepth 20000 in
theorem gX6_init_X4_init : GoodIn wsX6_init (wsX4_init) := ggX6_init_X4_init
set_option maxRecDepth 20000 in
theorem ggX6_init_X5_init : GoodIn wsX6_init wsX5_init := goodIn_r _ [45, 46, 2, 3, 47, 28, 48, 49, 50, 90, 91, 92] (by decide +kernel) (by decide +kernel)
set_option maxRecDepth 20000 in
theorem gX6_init_X5_init : GoodIn wsX6_init (wsX5_init) := ggX6_init_X5_init
set_option maxRecDepth 20000 in
theorem ggX6_init_X0_init : GoodIn wsX6_init wsX0_init := goodIn_r _ [53, 54, 2, 3, 28, 55, 56, 57, 93, 94, 95] (by decide +kernel) (by decide +kernel)
set_option maxRecDepth 20000 in
theorem gX6_init_X0_init : GoodIn wsX6_init (wsX0_init) := ggX6_init_X0_init
set_option maxRecDepth 20000 in
theorem ggX6_init_X1_init : GoodIn wsX6_init wsX1_init := goodIn_r _ [60, 61, 2, 3, 62, 28, 63, 64, 96, 97] (by decide +kernel) (by decide +kernel)
set_option maxRecDepth 20000 in
theorem gX6_init_X1_init : GoodIn wsX6_init (wsX1_init) := ggX6_init_X1_init
set_option maxRecDepth 20000 in
theorem ggX6_init_X3_init : GoodIn wsX6_init wsX3_init := goodIn_r _ [67, 68, 2, 3, 69, 28, 70, 71, 72, 40, 41, 42, 98, 99] (by decide +kernel) (by decide +kernel)
set_option maxRecDepth 20000 in
theorem gX6_init_X3_init : GoodIn wsX6_init (wsX3_init) := ggX6_init_X3_init
set_option maxRecDepth 20000 in
theorem ggX6_init_X2_init : GoodIn wsX6_init wsX2_init := goodIn_r _ [75, 76, 2, 3, 77, 78, 100, 101] (by decide +kernel) (by decide +kernel)
set_option maxRecDepth 20000 in
theorem gX6_init_X2_init : GoodIn wsX6_init (wsX2_init) := ggX6_init_X2_init
theorem dX6_init_0 : decode cX6_init 0 = .ok (.aload_n 0, 1) := by decide +kernel
theorem dX6_init_1 : decode cX6_init 1 = .ok (.invokespecial 1, 3) := by decide +kernel
theorem dX6_init_4 : decode cX6_init 4 = .ok (.aload_n 0, 1) := by decide +kernel
theorem dX6_init_5 : decode cX6_init 5 = .ok (.new 7, 3) := by decide +kernel
theorem dX6_init_8 : decode cX6_init 8 = .ok (.dup, 1) := by decide +kernel
theorem dX6_init_9 : decode cX6_init 9 = .ok (.invokespecial 9, 3) := by decide +kernel
theorem dX6_init_12 : decode cX6_init 12 = .ok (.putfield 10, 3) := by decide +kernel
theorem dX6_init_15 : decode cX6_init 15 = .ok (.aload_n 0, 1) := by decide +kernel
theorem dX6_init_16 : decode cX6_init 16 = .ok (.new 16, 3) := by decide +kernel
theorem dX6_init_19 : decode cX6_init 19 = .ok (.dup, 1) := by decide +kernel
theorem dX6_init_20 : decode cX6_init 20 = .ok (.invokespecial 18, 3) := by decide +kernel
theorem dX6_init_23 : decode cX6_init 23 = .ok (.putfield 19, 3) := by decide +kernel
theorem dX6_init_26 : decode cX6_init 26 = .ok (.aload_n 0, 1) := by decide +kernel
theorem dX6_init_27 : decode cX6_init 27 = .ok (.new 23, 3) := by decide +kernel
theorem dX6_init_30 : decode cX6_init 30 = .ok (.dup, 1) := by decide +kernel
theorem dX6_init_31 : decode cX6_init 31 = .ok (.invokespecial 25, 3) := by decide +kernel
theorem dX6_init_34 : decode cX6_init 34 = .ok (.putfield 26, 3) := by decide +kernel
theorem dX6_init_37 : decode cX6_init 37 = .ok (.aload_n 0, 1) := by decide +kernel
theorem dX6_init_38 : decode cX6_init 38 = .ok (.new 30, 3) := by decide +kernel
theorem dX6_init_41 : decode cX6_init 41 = .ok (.dup, 1) := by decide +kernel
theorem dX6_init_42 : decode cX6_init 42 = .ok (.invokespecial 32, 3) := by decide +kernel
theorem dX6_init_45 : decode cX6_init 45 = .ok (.putfield 33, 3) := by decide +kernel
theorem dX6_init_48 : decode cX6_init 48 = .ok (.aload_n 0, 1) := by decide +kernel
theorem dX6_init_49 : decode cX6_init 49 = .ok (.new 37, 3) := by decide +kernel
theorem dX6_init_52 : decode cX6_init 52 = .ok (.dup, 1) := by decide +kernel
theorem dX6_init_53 : decode cX6_init 53 = .ok (.invokespecial 39, 3) := by decide +kernel
theorem dX6_init_56 : decode cX6_init 56 = .ok (.putfield 40, 3) := by decide +kernel
theorem dX6_init_59 : decode cX6_init 59 = .ok (.aload_n 0, 1) := by decide +kernel
theorem dX6_init_60 : decode cX6_init 60 = .ok (.new 44, 3) := by decide +kernel
theorem dX6_init_63 : decode cX6_init 63 = .ok (.dup, 1) := by decide +kernel
theorem dX6_init_64 : decode cX6_init 64 = .ok (.invokespecial 46, 3) := by decide +kernel
theorem dX6_init_67 : decode cX6_init 67 = .ok (.putfield 47, 3) := by decide +kernel
theorem dX6_init_70 : decode cX6_init 70 = .ok (.aload_n 0, 1) := by decide +kernel
theorem dX6_init_71 : decode cX6_init 71 = .ok (.bipush 6, 2) := by decide +kernel
theorem dX6_init_73 : decode cX6_init 73 = .ok (.newarray .int, 2) := by decide +kernel
theorem dX6_init_75 : decode cX6_init 75 = .ok (.putfield 51, 3) := by decide +kernel
theorem dX6_init_78 : decode cX6_init 78 = .ok (.aload_n 0, 1) := by decide +kernel
theorem dX6_init_79 : decode cX6_init 79 = .ok (.iconst 0, 1) := by decide +kernel
theorem dX6_init_80 : decode cX6_init 80 = .ok (.putfield 55, 3) := by decide +kernel
theorem dX6_init_83 : decode cX6_init 83 = .ok (.aload_n 0, 1) := by decide +kernel
theorem dX6_init_84 : decode cX6_init 84 = .ok (.lconst 0, 1) := by decide +kernel
theorem dX6_init_85 : decode cX6_init 85 = .ok (.putfield 59, 3) := by decide +kernel
theorem dX6_init_88 : decode cX6_init 88 = .ok (.return_, 1) := by decide +kernel
set_option maxRecDepth 20000 in
theorem ggX6_row_X6_isRow : GoodIn wsX6_row wsX6_isRow := goodIn_r _ [5, 6, 7, 4, 8] (by decide +kernel) (by decide +kernel)
set_option maxRecDepth 20000 in
theorem gX6_row_X6_isRow : GoodIn wsX6_row (va_wsS RX6 63 yX6_isRow wsX6_isRow) := goodIn_app (goodIn_of _ (by decide +kernel)) ggX6_row_X6_isRow
set_option maxRecDepth 20000 in
theorem ggX6_row_X6_refuse : GoodIn wsX6_row wsX6_refuse := goodIn_r _ [12, 13, 14, 6, 7, 4, 8, 26, 27, 28, 29, 30, 31, 32, 33, 34] (by decide +kernel) (by decide +kernel)
set_option maxRecDepth 20000 in
theorem gX6_row_X6_refuse : GoodIn wsX6_row (wsV RX6 67 RX6 yX6_refuse wsX6_refuse) := goodIn_app (goodIn_of _ (by decide +kernel)) ggX6_row_X6_refuse
set_option maxRecDepth 20000 in
theorem ggX6_row_X4_make : GoodIn wsX6_row wsX4_make := goodIn_r _ [19, 20, 21, 22, 23, 24, 25, 35, 36] (by decide +kernel) (by decide +kernel)
set_option maxRecDepth 20000 in
theorem gX6_row_X4_make : GoodIn wsX6_row (wsV RX6 71 RX4 yX4_make wsX4_make) := goodIn_app (goodIn_of _ (by decide +kernel)) ggX6_row_X4_make
theorem dX6_row_0 : decode cX6_row 0 = .ok (.iload_n 1, 1) := by decide +kernel
theorem dX6_row_1 : decode cX6_row 1 = .ok (.invokestatic 63, 3) := by decide +kernel
theorem dX6_row_4 : decode cX6_row 4 = .ok (.ifCond .eq 9, 3) := by decide +kernel
theorem dX6_row_7 : decode cX6_row 7 = .ok (.iload_n 2, 1) := by decide +kernel
theorem dX6_row_8 : decode cX6_row 8 = .ok (.bipush 40, 2) := by decide +kernel
theorem dX6_row_10 : decode cX6_row 10 = .ok (.if_icmp .le 5, 3) := by decide +kernel
theorem dX6_row_13 : decode cX6_row 13 = .ok (.iconst (-1), 1) := by decide +kernel
theorem dX6_row_14 : decode cX6_row 14 = .ok (.ireturn, 1) := by decide +kernel
theorem dX6_row_15 : decode cX6_row 15 = .ok (.iload_n 2, 1) := by decide +kernel
theorem dX6_row_16 : decode cX6_row 16 = .ok (.ifCond .ge 9, 3) := by decide +kernel
theorem dX6_row_19 : decode cX6_row 19 = .ok (.aload_n 0, 1) := by decide +kernel
theorem dX6_row_20 : decode cX6_row 20 = .ok (.iconst 5, 1) := by decide +kernel
theorem dX6_row_21 : decode cX6_row 21 = .ok (.invokevirtual 67, 3) := by decide +kernel
theorem dX6_row_24 : decode cX6_row 24 = .ok (.ireturn, 1) := by decide +kernel
theorem dX6_row_25 : decode cX6_row 25 = .ok (.aload_n 0, 1) := by decide +kernel
theorem dX6_row_26 : decode cX6_row 26 = .ok (.getfield 10, 3) := by decide +kernel
theorem dX6_row_29 : decode cX6_row 29 = .ok (.iload_n 1, 1) := by decide +kernel
theorem dX6_row_30 : decode cX6_row 30 = .ok (.iload_n 2, 1) := by decide +kernel
theorem dX6_row_31 : decode cX6_row 31 = .ok (.invokevirtual 71, 3) := by decide +kernel
theorem dX6_row_34 : decode cX6_row 34 = .ok (.iload_n 2, 1) := by decide +kernel
theorem dX6_row_35 : decode cX6_row 35 = .ok (.ireturn, 1) := by decide +kernel
set_option maxRecDepth 20000 in
theorem ggX6_lay_X6_isRow : GoodIn wsX6_lay wsX6_isRow := goodIn_r _ [7, 8, 9, 6, 10] (by decide +kernel) (by decide +kernel)
set_option maxRecDepth 20000 in
theorem gX6_lay_X6_isRow : GoodIn wsX6_lay (va_wsS RX6 63 yX6_isRow wsX6_isRow) := goodIn_app (goodIn_of _ (by decide +kernel)) ggX6_lay_X6_isRow
set_option maxRecDepth 20000 in
theorem ggX6_lay_X6_isWithin : GoodIn wsX6_lay wsX6_isWithin := goodIn_r _ [13, 8, 9, 6, 10] (by decide +kernel) (by decide +kernel)
set_option maxRecDepth 20000 in
theorem gX6_lay_X6_isWithin : GoodIn wsX6_lay (va_wsS RX6 76 yX6_isWithin wsX6_isWithin) := goodIn_app (goodIn_of _ (by decide +kernel)) ggX6_lay_X6_isWithin
set_option maxRecDepth 20000 in
theorem ggX6_lay_X4_isMissing : GoodIn wsX6_lay wsX4_isMissing := goodIn_r _ [18, 19, 48, 49] (by decide +kernel) (by decide +kernel)
set_option maxRecDepth 20000 in
theorem gX6_lay_X4_isMissing : GoodIn wsX6_lay (wsV RX6 80 RX4 yX4_isMissing wsX4_isMissing) := goodIn_app (goodIn_of _ (by decide +kernel)) ggX6_lay_X4_isMissing
set_option maxRecDepth 20000 in
theorem ggX6_lay_X6_refuse : GoodIn wsX6_lay wsX6_refuse := goodIn_r _ [23, 24, 25, 8, 9, 6, 10, 39, 40, 41, 42, 43, 44, 45, 46, 47] (by decide +kernel) (by decide +kernel)
set_option maxRecDepth 20000 in
theorem gX6_lay_X6_refuse : GoodIn wsX6_lay (wsV RX6 67 RX6 yX6_refuse wsX6_refuse) := goodIn_app (goodIn_of _ (by decide +kernel)) ggX6_lay_X6_refuse
set_option maxRecDepth 20000 in
theorem ggX6_lay_X4_hasPlaces : GoodIn wsX6_lay wsX4_hasPlaces := goodIn_r _ [29, 19, 9, 6, 10, 48, 49] (by decide +kernel) (by decide +kernel)
set_option maxRecDepth 20000 in
theorem gX6_lay_X4_hasPlaces : GoodIn wsX6_lay (wsV RX6 83 RX4 yX4_hasPlaces wsX4_hasPlaces) := goodIn_app (goodIn_of _ (by decide +kernel)) ggX6_lay_X4_hasPlaces
set_option maxRecDepth 20000 in
theorem ggX6_lay_X4_readingAt : GoodIn wsX6_lay wsX4_readingAt := goodIn_r _ [33, 34, 48, 49] (by decide +kernel) (by decide +kernel)
set_option maxRecDepth 20000 in
theorem gX6_lay_X4_readingAt : GoodIn wsX6_lay (wsV RX6 87 RX4 yX4_readingAt wsX4_readingAt) := goodIn_app (goodIn_of _ (by decide +kernel)) ggX6_lay_X4_readingAt
set_option maxRecDepth 20000 in
theorem ggX6_lay_X4_put : GoodIn wsX6_lay wsX4_put := goodIn_r _ [38, 34, 48, 49] (by decide +kernel) (by decide +kernel)
set_option maxRecDepth 20000 in
theorem gX6_lay_X4_put : GoodIn wsX6_lay (wsV RX6 91 RX4 yX4_put wsX4_put) := goodIn_app (goodIn_of _ (by decide +kernel)) ggX6_lay_X4_put
theorem dX6_lay_0 : decode cX6_lay 0 = .ok (.iload_n 1, 1) := by decide +kernel
theorem dX6_lay_1 : decode cX6_lay 1 = .ok (.invokestatic 63, 3) := by decide +kernel
theorem dX6_lay_4 : decode cX6_lay 4 = .ok (.ifCond .eq 12, 3) := by decide +kernel
theorem dX6_lay_7 : decode cX6_lay 7 = .ok (.iload_n 3, 1) := by decide +kernel
theorem dX6_lay_8 : decode cX6_lay 8 = .ok (.ldc 75, 2) := by decide +kernel
theorem dX6_lay_10 : decode cX6_lay 10 = .ok (.invokestatic 76, 3) := by decide +kernel
theorem dX6_lay_13 : decode cX6_lay 13 = .ok (.ifCond .ne 5, 3) := by decide +kernel
theorem dX6_lay_16 : decode cX6_lay 16 = .ok (.iconst (-1), 1) := by decide +kernel
theorem dX6_lay_17 : decode cX6_lay 17 = .ok (.ireturn, 1) := by decide +kernel
theorem dX6_lay_18 : decode cX6_lay 18 = .ok (.aload_n 0, 1) := by decide +kernel
theorem dX6_lay_19 : decode cX6_lay 19 = .ok (.getfield 10, 3) := by decide +kernel
theorem dX6_lay_22 : decode cX6_lay 22 = .ok (.iload_n 1, 1) := by decide +kernel
theorem dX6_lay_23 : decode cX6_lay 23 = .ok (.invokevirtual 80, 3) := by decide +kernel
theorem dX6_lay_26 : decode cX6_lay 26 = .ok (.ifCond .eq 9, 3) := by decide +kernel
theorem dX6_lay_29 : decode cX6_lay 29 = .ok (.aload_n 0, 1) := by decide +kernel
theorem dX6_lay_30 : decode cX6_lay 30 = .ok (.iconst 1, 1) := by decide +kernel
theorem dX6_lay_31 : decode cX6_lay 31 = .ok (.invokevirtual 67, 3) := by decide +kernel
theorem dX6_lay_34 : decode cX6_lay 34 = .ok (.ireturn, 1) := by decide +kernel
theorem dX6_lay_35 : decode cX6_lay 35 = .ok (.aload_n 0, 1) := by decide +kernel
theorem dX6_lay_36 : decode cX6_lay 36 = .ok (.getfield 10, 3) := by decide +kernel
theorem dX6_lay_39 : decode cX6_lay 39 = .ok (.iload_n 1, 1) := by decide +kernel
theorem dX6_lay_40 : decode cX6_lay 40 = .ok (.iload_n 2, 1) := by decide +kernel
theorem dX6_lay_41 : decode cX6_lay 41 = .ok (.iconst 1, 1) := by decide +kernel
theorem dX6_lay_42 : decode cX6_lay 42 = .ok (.invokevirtual 83, 3) := by decide +kernel
theorem dX6_lay_45 : decode cX6_lay 45 = .ok (.ifCond .ne 9, 3) := by decide +kernel
theorem dX6_lay_48 : decode cX6_lay 48 = .ok (.aload_n 0, 1) := by decide +kernel
theorem dX6_lay_49 : decode cX6_lay 49 = .ok (.iconst 2, 1) := by decide +kernel
theorem dX6_lay_50 : decode cX6_lay 50 = .ok (.invokevirtual 67, 3) := by decide +kernel
theorem dX6_lay_53 : decode cX6_lay 53 = .ok (.ireturn, 1) := by decide +kernel
theorem dX6_lay_54 : decode cX6_lay 54 = .ok (.aload_n 0, 1) := by decide +kernel
theorem dX6_lay_55 : decode cX6_lay 55 = .ok (.aload_n 0, 1) := by decide +kernel
theorem dX6_lay_56 : decode cX6_lay 56 = .ok (.getfield 10, 3) := by decide +kernel
theorem dX6_lay_59 : decode cX6_lay 59 = .ok (.iload_n 1, 1) := by decide +kernel
theorem dX6_lay_60 : decode cX6_lay 60 = .ok (.iload_n 2, 1) := by decide +kernel
theorem dX6_lay_61 : decode cX6_lay 61 = .ok (.invokevirtual 87, 3) := by decide +kernel
theorem dX6_lay_64 : decode cX6_lay 64 = .ok (.i2l, 1) := by decide +kernel
theorem dX6_lay_65 : decode cX6_lay 65 = .ok (.putfield 59, 3) := by decide +kernel
theorem dX6_lay_68 : decode cX6_lay 68 = .ok (.aload_n 0, 1) := by decide +kernel
theorem dX6_lay_69 : decode cX6_lay 69 = .ok (.getfield 10, 3) := by decide +kernel
theorem dX6_lay_72 : decode cX6_lay 72 = .ok (.iload_n 1, 1) := by decide +kernel
theorem dX6_lay_73 : decode cX6_lay 73 = .ok (.iload_n 2, 1) := by decide +kernel
theorem dX6_lay_74 : decode cX6_lay 74 = .ok (.iload_n 3, 1) := by decide +kernel
theorem dX6_lay_75 : decode cX6_lay 75 = .ok (.invokevirtual 91, 3) := by decide +kernel
theorem dX6_lay_78 : decode cX6_lay 78 = .ok (.iconst 1, 1) := by decide +kernel
theorem dX6_lay_79 : decode cX6_lay 79 = .ok (.ireturn, 1) := by decide +kernel
set_option maxRecDepth 20000 in
theorem ggX6_tear_X6_isRow : GoodIn wsX6_tear wsX6_isRow := goodIn_r _ [5, 6, 7, 4, 8] (by decide +kernel) (by decide +kernel)
set_option maxRecDepth 20000 in
theorem gX6_tear_X6_isRow : GoodIn wsX6_tear (va_wsS RX6 63 yX6_isRow wsX6_isRow) := goodIn_app (goodIn_of _ (by decide +kernel)) ggX6_tear_X6_isRow
set_option maxRecDepth 20000 in
theorem ggX6_tear_X4_isMissing : GoodIn wsX6_tear wsX4_isMissing := goodIn_r _ [13, 14, 34, 35] (by decide +kernel) (by decide +kernel)
set_option maxRecDepth 20000 in
theorem gX6_tear_X4_isMissing : GoodIn wsX6_tear (wsV RX6 80 RX4 yX4_isMissing wsX4_isMissing) := goodIn_app (goodIn_of _ (by decide +kernel)) ggX6_tear_X4_isMissing
set_option maxRecDepth 20000 in
theorem ggX6_tear_X6_refuse : GoodIn wsX6_tear wsX6_refuse := goodIn_r _ [18, 19, 20, 6, 7, 4, 8, 25, 26, 27, 28, 29, 30, 31, 32, 33] (by decide +kernel) (by decide +kernel)
set_option maxRecDepth 20000 in
theorem gX6_tear_X6_refuse : GoodIn wsX6_tear (wsV RX6 67 RX6 yX6_refuse wsX6_refuse) := goodIn_app (goodIn_of _ (by decide +kernel)) ggX6_tear_X6_refuse
set_option maxRecDepth 20000 in
theorem ggX6_tear_X4_drop : GoodIn wsX6_tear wsX4_drop := goodIn_r _ [24, 14, 34, 35] (by decide +kernel) (by decide +kernel)
set_option maxRecDepth 20000 in
theorem gX6_tear_X4_drop : GoodIn wsX6_tear (wsV RX6 95 RX4 yX4_drop wsX4_drop) := goodIn_app (goodIn_of _ (by decide +kernel)) ggX6_tear_X4_drop
theorem dX6_tear_0 : decode cX6_tear 0 = .ok (.iload_n 1, 1) := by decide +kernel
theorem dX6_tear_1 : decode cX6_tear 1 = .ok (.invokestatic 63, 3) := by decide +kernel
theorem dX6_tear_4 : decode cX6_tear 4 = .ok (.ifCond .ne 5, 3) := by decide +kernel
theorem dX6_tear_7 : decode cX6_tear 7 = .ok (.iconst (-1), 1) := by decide +kernel
theorem dX6_tear_8 : decode cX6_tear 8 = .ok (.ireturn, 1) := by decide +kernel
theorem dX6_tear_9 : decode cX6_tear 9 = .ok (.aload_n 0, 1) := by decide +kernel
theorem dX6_tear_10 : decode cX6_tear 10 = .ok (.getfield 10, 3) := by decide +kernel
theorem dX6_tear_13 : decode cX6_tear 13 = .ok (.iload_n 1, 1) := by decide +kernel
theorem dX6_tear_14 : decode cX6_tear 14 = .ok (.invokevirtual 80, 3) := by decide +kernel
theorem dX6_tear_17 : decode cX6_tear 17 = .ok (.ifCond .eq 9, 3) := by decide +kernel
theorem dX6_tear_20 : decode cX6_tear 20 = .ok (.aload_n 0, 1) := by decide +kernel
theorem dX6_tear_21 : decode cX6_tear 21 = .ok (.iconst 1, 1) := by decide +kernel
theorem dX6_tear_22 : decode cX6_tear 22 = .ok (.invokevirtual 67, 3) := by decide +kernel
theorem dX6_tear_25 : decode cX6_tear 25 = .ok (.ireturn, 1) := by decide +kernel
theorem dX6_tear_26 : decode cX6_tear 26 = .ok (.aload_n 0, 1) := by decide +kernel
theorem dX6_tear_27 : decode cX6_tear 27 = .ok (.getfield 10, 3) := by decide +kernel
theorem dX6_tear_30 : decode cX6_tear 30 = .ok (.iload_n 1, 1) := by decide +kernel
theorem dX6_tear_31 : decode cX6_tear 31 = .ok (.invokevirtual 95, 3) := by decide +kernel
theorem dX6_tear_34 : decode cX6_tear 34 = .ok (.iconst 1, 1) := by decide +kernel
theorem dX6_tear_35 : decode cX6_tear 35 = .ok (.ireturn, 1) := by decide +kernel
set_option maxRecDepth 20000 in
theorem ggX6_copy_X6_isRow : GoodIn wsX6_copy wsX6_isRow := goodIn_r _ [5, 6, 7, 4, 8] (by decide +kernel) (by decide +kernel)
set_option maxRecDepth 20000 in
theorem gX6_copy_X6_isRow : GoodIn wsX6_copy (va_wsS RX6 63 yX6_isRow wsX6_isRow) := goodIn_app (goodIn_of _ (by decide +kernel)) ggX6_copy_X6_isRow
set_option maxRecDepth 20000 in
theorem ggX6_copy_X6_refuse : GoodIn wsX6_copy wsX6_refuse := goodIn_r _ [12, 13, 14, 6, 7, 4, 8, 34, 35, 36, 37, 38, 39, 40, 41, 42] (by decide +kernel) (by decide +kernel)
set_option maxRecDepth 20000 in
theorem gX6_copy_X6_refuse : GoodIn wsX6_copy (wsV RX6 67 RX6 yX6_refuse wsX6_refuse) := goodIn_app (goodIn_of _ (by decide +kernel)) ggX6_copy_X6_refuse
set_option maxRecDepth 20000 in
theorem ggX6_copy_X4_isMissing : GoodIn wsX6_copy wsX4_isMissing := goodIn_r _ [19, 20, 43, 44] (by decide +kernel) (by decide +kernel)
set_option maxRecDepth 20000 in
theorem gX6_copy_X4_isMissing : GoodIn wsX6_copy (wsV RX6 80 RX4 yX4_isMissing wsX4_isMissing) := goodIn_app (goodIn_of _ (by decide +kernel)) ggX6_copy_X4_isMissing
set_option maxRecDepth 20000 in
theorem ggX6_copy_X4_hasPlaces : GoodIn wsX6_copy wsX4_hasPlaces := goodIn_r _ [24, 20, 7, 4, 8, 43, 44] (by decide +kernel) (by decide +kernel)
set_option maxRecDepth 20000 in
theorem gX6_copy_X4_hasPlaces : GoodIn wsX6_copy (wsV RX6 83 RX4 yX4_hasPlaces wsX4_hasPlaces) := goodIn_app (goodIn_of _ (by decide +kernel)) ggX6_copy_X4_hasPlaces
set_option maxRecDepth 20000 in
theorem ggX6_copy_X4_carry : GoodIn wsX6_copy wsX4_carry := goodIn_r _ [28, 29, 30, 31, 32, 33, 43, 44] (by decide +kernel) (by decide +kernel)
set_option maxRecDepth 20000 in
theorem gX6_copy_X4_carry : GoodIn wsX6_copy (wsV RX6 99 RX4 yX4_carry wsX4_carry) := goodIn_app (goodIn_of _ (by decide +kernel)) ggX6_copy_X4_carry
theorem dX6_copy_0 : decode cX6_copy 0 = .ok (.iload_n 1, 1) := by decide +kernel
theorem dX6_copy_1 : decode cX6_copy 1 = .ok (.invokestatic 63, 3) := by decide +kernel
theorem dX6_copy_4 : decode cX6_copy 4 = .ok (.ifCond .eq 10, 3) := by decide +kernel
theorem dX6_copy_7 : decode cX6_copy 7 = .ok (.iload_n 3, 1) := by decide +kernel
theorem dX6_copy_8 : decode cX6_copy 8 = .ok (.invokestatic 63, 3) := by decide +kernel
theorem dX6_copy_11 : decode cX6_copy 11 = .ok (.ifCond .ne 5, 3) := by decide +kernel
theorem dX6_copy_14 : decode cX6_copy 14 = .ok (.iconst (-1), 1) := by decide +kernel
theorem dX6_copy_15 : decode cX6_copy 15 = .ok (.ireturn, 1) := by decide +kernel
theorem dX6_copy_16 : decode cX6_copy 16 = .ok (.iload 5, 2) := by decide +kernel
theorem dX6_copy_18 : decode cX6_copy 18 = .ok (.ifCond .ge 9, 3) := by decide +kernel
theorem dX6_copy_21 : decode cX6_copy 21 = .ok (.aload_n 0, 1) := by decide +kernel
theorem dX6_copy_22 : decode cX6_copy 22 = .ok (.iconst 5, 1) := by decide +kernel
theorem dX6_copy_23 : decode cX6_copy 23 = .ok (.invokevirtual 67, 3) := by decide +kernel
theorem dX6_copy_26 : decode cX6_copy 26 = .ok (.ireturn, 1) := by decide +kernel
theorem dX6_copy_27 : decode cX6_copy 27 = .ok (.aload_n 0, 1) := by decide +kernel
theorem dX6_copy_28 : decode cX6_copy 28 = .ok (.getfield 10, 3) := by decide +kernel
theorem dX6_copy_31 : decode cX6_copy 31 = .ok (.iload_n 1, 1) := by decide +kernel
theorem dX6_copy_32 : decode cX6_copy 32 = .ok (.invokevirtual 80, 3) := by decide +kernel
theorem dX6_copy_35 : decode cX6_copy 35 = .ok (.ifCond .ne 14, 3) := by decide +kernel
theorem dX6_copy_38 : decode cX6_copy 38 = .ok (.aload_n 0, 1) := by decide +kernel
theorem dX6_copy_39 : decode cX6_copy 39 = .ok (.getfield 10, 3) := by decide +kernel
theorem dX6_copy_42 : decode cX6_copy 42 = .ok (.iload_n 3, 1) := by decide +kernel
theorem dX6_copy_43 : decode cX6_copy 43 = .ok (.invokevirtual 80, 3) := by decide +kernel
theorem dX6_copy_46 : decode cX6_copy 46 = .ok (.ifCond .eq 9, 3) := by decide +kernel
theorem dX6_copy_49 : decode cX6_copy 49 = .ok (.aload_n 0, 1) := by decide +kernel
theorem dX6_copy_50 : decode cX6_copy 50 = .ok (.iconst 1, 1) := by decide +kernel
theorem dX6_copy_51 : decode cX6_copy 51 = .ok (.invokevirtual 67, 3) := by decide +kernel
theorem dX6_copy_54 : decode cX6_copy 54 = .ok (.ireturn, 1) := by decide +kernel
theorem dX6_copy_55 : decode cX6_copy 55 = .ok (.aload_n 0, 1) := by decide +kernel
theorem dX6_copy_56 : decode cX6_copy 56 = .ok (.getfield 10, 3) := by decide +kernel
theorem dX6_copy_59 : decode cX6_copy 59 = .ok (.iload_n 1, 1) := by decide +kernel
theorem dX6_copy_60 : decode cX6_copy 60 = .ok (.iload_n 2, 1) := by decide +kernel
theorem dX6_copy_61 : decode cX6_copy 61 = .ok (.iload 5, 2) := by decide +kernel
theorem dX6_copy_63 : decode cX6_copy 63 = .ok (.invokevirtual 83, 3) := by decide +kernel
theorem dX6_copy_66 : decode cX6_copy 66 = .ok (.ifCond .eq 18, 3) := by decide +kernel
theorem dX6_copy_69 : decode cX6_copy 69 = .ok (.aload_n 0, 1) := by decide +kernel
theorem dX6_copy_70 : decode cX6_copy 70 = .ok (.getfield 10, 3) := by decide +kernel
theorem dX6_copy_73 : decode cX6_copy 73 = .ok (.iload_n 3, 1) := by decide +kernel
theorem dX6_copy_74 : decode cX6_copy 74 = .ok (.iload 4, 2) := by decide +kernel
theorem dX6_copy_76 : decode cX6_copy 76 = .ok (.iload 5, 2) := by decide +kernel
theorem dX6_copy_78 : decode cX6_copy 78 = .ok (.invokevirtual 83, 3) := by decide +kernel
theorem dX6_copy_81 : decode cX6_copy 81 = .ok (.ifCond .ne 9, 3) := by decide +kernel
theorem dX6_copy_84 : decode cX6_copy 84 = .ok (.aload_n 0, 1) := by decide +kernel
theorem dX6_copy_85 : decode cX6_copy 85 = .ok (.iconst 2, 1) := by decide +kernel
theorem dX6_copy_86 : decode cX6_copy 86 = .ok (.invokevirtual 67, 3) := by decide +kernel
theorem dX6_copy_89 : decode cX6_copy 89 = .ok (.ireturn, 1) := by decide +kernel
theorem dX6_copy_90 : decode cX6_copy 90 = .ok (.aload_n 0, 1) := by decide +kernel
theorem dX6_copy_91 : decode cX6_copy 91 = .ok (.getfield 10, 3) := by decide +kernel
theorem dX6_copy_94 : decode cX6_copy 94 = .ok (.iload_n 1, 1) := by decide +kernel
theorem dX6_copy_95 : decode cX6_copy 95 = .ok (.iload_n 2, 1) := by decide +kernel
theorem dX6_copy_96 : decode cX6_copy 96 = .ok (.iload_n 3, 1) := by decide +kernel
theorem dX6_copy_97 : decode cX6_copy 97 = .ok (.iload 4, 2) := by decide +kernel
theorem dX6_copy_99 : decode cX6_copy 99 = .ok (.iload 5, 2) := by decide +kernel
theorem dX6_copy_101 : decode cX6_copy 101 = .ok (.invokevirtual 99, 3) := by decide +kernel
theorem dX6_copy_104 : decode cX6_copy 104 = .ok (.iconst 1, 1) := by decide +kernel
theorem dX6_copy_105 : decode cX6_copy 105 = .ok (.ireturn, 1) := by decide +kernel
set_option maxRecDepth 20000 in
theorem ggX6_mean_X6_isRow : GoodIn wsX6_mean wsX6_isRow := goodIn_r _ [6, 7, 8, 5, 9] (by decide +kernel) (by decide +kernel)
set_option maxRecDepth 20000 in
theorem gX6_mean_X6_isRow : GoodIn wsX6_mean (va_wsS RX6 63 yX6_isRow wsX6_isRow) := goodIn_app (goodIn_of _ (by decide +kernel)) ggX6_mean_X6_isRow
set_option maxRecDepth 20000 in
theorem ggX6_mean_X4_isMissing : GoodIn wsX6_mean wsX4_isMissing := goodIn_r _ [14, 15, 44, 45] (by decide +kernel) (by decide +kernel)
set_option maxRecDepth 20000 in
theorem gX6_mean_X4_isMissing : GoodIn wsX6_mean (wsV RX6 80 RX4 yX4_isMissing wsX4_isMissing) := goodIn_app (goodIn_of _ (by decide +kernel)) ggX6_mean_X4_isMissing
set_option maxRecDepth 20000 in
theorem ggX6_mean_X6_refuse : GoodIn wsX6_mean wsX6_refuse := goodIn_r _ [19, 20, 21, 7, 8, 5, 9, 35, 36, 37, 38, 39, 40, 41, 42, 43] (by decide +kernel) (by decide +kernel)
set_option maxRecDepth 20000 in
theorem gX6_mean_X6_refuse : GoodIn wsX6_mean (wsV RX6 67 RX6 yX6_refuse wsX6_refuse) := goodIn_app (goodIn_of _ (by decide +kernel)) ggX6_mean_X6_refuse
set_option maxRecDepth 20000 in
theorem ggX6_mean_X4_heldCount : GoodIn wsX6_mean wsX4_heldCount := goodIn_r _ [25, 15, 26, 44, 45] (by decide +kernel) (by decide +kernel)
set_option maxRecDepth 20000 in
theorem gX6_mean_X4_heldCount : GoodIn wsX6_mean (wsV RX6 103 RX4 yX4_heldCount wsX4_heldCount) := goodIn_app (goodIn_of _ (by decide +kernel)) ggX6_mean_X4_heldCount
set_option maxRecDepth 20000 in
theorem ggX6_mean_X4_sizeOf : GoodIn wsX6_mean wsX4_sizeOf := goodIn_r _ [30, 15, 44, 45] (by decide +kernel) (by decide +kernel)
set_option maxRecDepth 20000 in
theorem gX6_mean_X4_sizeOf : GoodIn wsX6_mean (wsV RX6 106 RX4 yX4_sizeOf wsX4_sizeOf) := goodIn_app (goodIn_of _ (by decide +kernel)) ggX6_mean_X4_sizeOf
set_option maxRecDepth 20000 in
theorem ggX6_mean_X4_heldSum : GoodIn wsX6_mean wsX4_heldSum := goodIn_r _ [34, 26, 44, 45] (by decide +kernel) (by decide +kernel)
set_option maxRecDepth 20000 in
theorem gX6_mean_X4_heldSum : GoodIn wsX6_mean (wsV RX6 109 RX4 yX4_heldSum wsX4_heldSum) := goodIn_app (goodIn_of _ (by decide +kernel)) ggX6_mean_X4_heldSum
theorem dX6_mean_0 : decode cX6_mean 0 = .ok (.iload_n 1, 1) := by decide +kernel
theorem dX6_mean_1 : decode cX6_mean 1 = .ok (.invokestatic 63, 3) := by decide +kernel
theorem dX6_mean_4 : decode cX6_mean 4 = .ok (.ifCond .ne 5, 3) := by decide +kernel
theorem dX6_mean_7 : decode cX6_mean 7 = .ok (.iconst (-1), 1) := by decide +kernel
theorem dX6_mean_8 : decode cX6_mean 8 = .ok (.ireturn, 1) := by decide +kernel
theorem dX6_mean_9 : decode cX6_mean 9 = .ok (.aload_n 0, 1) := by decide +kernel
theorem dX6_mean_10 : decode cX6_mean 10 = .ok (.getfield 10, 3) := by decide +kernel
theorem dX6_mean_13 : decode cX6_mean 13 = .ok (.iload_n 1, 1) := by decide +kernel
theorem dX6_mean_14 : decode cX6_mean 14 = .ok (.invokevirtual 80, 3) := by decide +kernel
theorem dX6_mean_17 : decode cX6_mean 17 = .ok (.ifCond .eq 9, 3) := by decide +kernel
theorem dX6_mean_20 : decode cX6_mean 20 = .ok (.aload_n 0, 1) := by decide +kernel
theorem dX6_mean_21 : decode cX6_mean 21 = .ok (.iconst 1, 1) := by decide +kernel
theorem dX6_mean_22 : decode cX6_mean 22 = .ok (.invokevirtual 67, 3) := by decide +kernel
theorem dX6_mean_25 : decode cX6_mean 25 = .ok (.ireturn, 1) := by decide +kernel
theorem dX6_mean_26 : decode cX6_mean 26 = .ok (.aload_n 0, 1) := by decide +kernel
theorem dX6_mean_27 : decode cX6_mean 27 = .ok (.getfield 10, 3) := by decide +kernel
theorem dX6_mean_30 : decode cX6_mean 30 = .ok (.iload_n 1, 1) := by decide +kernel
theorem dX6_mean_31 : decode cX6_mean 31 = .ok (.invokevirtual 103, 3) := by decide +kernel
theorem dX6_mean_34 : decode cX6_mean 34 = .ok (.istore_n 2, 1) := by decide +kernel
theorem dX6_mean_35 : decode cX6_mean 35 = .ok (.iload_n 2, 1) := by decide +kernel
theorem dX6_mean_36 : decode cX6_mean 36 = .ok (.ifCond .ne 9, 3) := by decide +kernel
theorem dX6_mean_39 : decode cX6_mean 39 = .ok (.aload_n 0, 1) := by decide +kernel
theorem dX6_mean_40 : decode cX6_mean 40 = .ok (.iconst 4, 1) := by decide +kernel
theorem dX6_mean_41 : decode cX6_mean 41 = .ok (.invokevirtual 67, 3) := by decide +kernel
theorem dX6_mean_44 : decode cX6_mean 44 = .ok (.ireturn, 1) := by decide +kernel
theorem dX6_mean_45 : decode cX6_mean 45 = .ok (.aload_n 0, 1) := by decide +kernel
theorem dX6_mean_46 : decode cX6_mean 46 = .ok (.aload_n 0, 1) := by decide +kernel
theorem dX6_mean_47 : decode cX6_mean 47 = .ok (.getfield 10, 3) := by decide +kernel
theorem dX6_mean_50 : decode cX6_mean 50 = .ok (.iload_n 1, 1) := by decide +kernel
theorem dX6_mean_51 : decode cX6_mean 51 = .ok (.iconst 0, 1) := by decide +kernel
theorem dX6_mean_52 : decode cX6_mean 52 = .ok (.aload_n 0, 1) := by decide +kernel
theorem dX6_mean_53 : decode cX6_mean 53 = .ok (.getfield 10, 3) := by decide +kernel
theorem dX6_mean_56 : decode cX6_mean 56 = .ok (.iload_n 1, 1) := by decide +kernel
theorem dX6_mean_57 : decode cX6_mean 57 = .ok (.invokevirtual 106, 3) := by decide +kernel
theorem dX6_mean_60 : decode cX6_mean 60 = .ok (.invokevirtual 109, 3) := by decide +kernel
theorem dX6_mean_63 : decode cX6_mean 63 = .ok (.iload_n 2, 1) := by decide +kernel
theorem dX6_mean_64 : decode cX6_mean 64 = .ok (.idiv, 1) := by decide +kernel
theorem dX6_mean_65 : decode cX6_mean 65 = .ok (.i2l, 1) := by decide +kernel
theorem dX6_mean_66 : decode cX6_mean 66 = .ok (.putfield 59, 3) := by decide +kernel
theorem dX6_mean_69 : decode cX6_mean 69 = .ok (.iconst 1, 1) := by decide +kernel
theorem dX6_mean_70 : decode cX6_mean 70 = .ok (.ireturn, 1) := by decide +kernel
set_option maxRecDepth 20000 in
theorem ggX6_plateau_X6_isRow : GoodIn wsX6_plateau wsX6_isRow := goodIn_r _ [8, 9, 10, 7, 11] (by decide +kernel) (by decide +kernel)
set_option maxRecDepth 20000 in
theorem gX6_plateau_X6_isRow : GoodIn wsX6_plateau (va_wsS RX6 63 yX6_isRow wsX6_isRow) := goodIn_app (goodIn_of _ (by decide +kernel)) ggX6_plateau_X6_isRow
set_option maxRecDepth 20000 in
theorem ggX6_plateau_X6_isBetween : GoodIn wsX6_plateau wsX6_isBetween := goodIn_r _ [11] (by decide +kernel) (by decide +kernel)
set_option maxRecDepth 20000 in
theorem gX6_plateau_X6_isBetween : GoodIn wsX6_plateau (va_wsS RX6 113 yX6_isBetween wsX6_isBetween) := goodIn_app (goodIn_of _ (by decide +kernel)) ggX6_plateau_X6_isBetween
set_option maxRecDepth 20000 in
theorem ggX6_plateau_X4_isMissing : GoodIn wsX6_plateau wsX4_isMissing := goodIn_r _ [16, 17, 68, 69] (by decide +kernel) (by decide +kernel)
set_option maxRecDepth 20000 in
theorem gX6_plateau_X4_isMissing : GoodIn wsX6_plateau (wsV RX6 80 RX4 yX4_isMissing wsX4_isMissing) := goodIn_app (goodIn_of _ (by decide +kernel)) ggX6_plateau_X4_isMissing
set_option maxRecDepth 20000 in
theorem ggX6_plateau_X6_refuse : GoodIn wsX6_plateau wsX6_refuse := goodIn_r _ [21, 22, 23, 9, 10, 7, 11, 59, 60, 61, 62, 63, 64, 65, 66, 67] (by decide +kernel) (by decide +kernel)
set_option maxRecDepth 20000 in
theorem gX6_plateau_X6_refuse : GoodIn wsX6_plateau (wsV RX6 67 RX6 yX6_refuse wsX6_refuse) := goodIn_app (goodIn_of _ (by decide +kernel)) ggX6_plateau_X6_refuse
set_option maxRecDepth 20000 in
theorem ggX6_plateau_X4_longestLevelStart : GoodIn wsX6_plateau wsX4_longestLevelStart := goodIn_r _ [27, 17, 28, 29, 30, 15, 31, 32, 33, 34, 35, 36, 37, 38, 39, 40, 41, 68, 69] (by decide +kernel) (by decide +kernel)
set_option maxRecDepth 20000 in
theorem gX6_plateau_X4_longestLevelStart : GoodIn wsX6_plateau (wsV RX6 116 RX4 yX4_longestLevelStart wsX4_longestLevelStart) := goodIn_app (goodIn_of _ (by decide +kernel)) ggX6_plateau_X4_longestLevelStart
set_option maxRecDepth 20000 in
theorem ggX6_plateau_X4_levelLength : GoodIn wsX6_plateau wsX4_levelLength := goodIn_r _ [31, 32, 33, 17, 34, 35, 36, 37, 38, 39, 40, 41, 68, 69] (by decide +kernel) (by decide +kernel)
set_option maxRecDepth 20000 in
theorem gX6_plateau_X4_levelLength : GoodIn wsX6_plateau (wsV RX6 119 RX4 yX4_levelLength wsX4_levelLength) := goodIn_app (goodIn_of _ (by decide +kernel)) ggX6_plateau_X4_levelLength
set_option maxRecDepth 20000 in
theorem ggX6_plateau_X4_heldSum : GoodIn wsX6_plateau wsX4_heldSum := goodIn_r _ [46, 34, 68, 69] (by decide +kernel) (by decide +kernel)
set_option maxRecDepth 20000 in
theorem gX6_plateau_X4_heldSum : GoodIn wsX6_plateau (wsV RX6 109 RX4 yX4_heldSum wsX4_heldSum) := goodIn_app (goodIn_of _ (by decide +kernel)) ggX6_plateau_X4_heldSum
set_option maxRecDepth 20000 in
theorem ggX6_plateau_X2_tell : GoodIn wsX6_plateau wsX2_tell := goodIn_r _ [51, 52, 53, 54, 7, 55, 56, 57, 37, 58, 70, 71] (by decide +kernel) (by decide +kernel)
set_option maxRecDepth 20000 in
theorem gX6_plateau_X2_tell : GoodIn wsX6_plateau (wsV RX6 122 RX2 yX2_tell wsX2_tell) := goodIn_app (goodIn_of _ (by decide +kernel)) ggX6_plateau_X2_tell
theorem dX6_plateau_0 : decode cX6_plateau 0 = .ok (.iload_n 1, 1) := by decide +kernel
theorem dX6_plateau_1 : decode cX6_plateau 1 = .ok (.invokestatic 63, 3) := by decide +kernel
theorem dX6_plateau_4 : decode cX6_plateau 4 = .ok (.ifCond .eq 23, 3) := by decide +kernel
theorem dX6_plateau_7 : decode cX6_plateau 7 = .ok (.iload_n 2, 1) := by decide +kernel
theorem dX6_plateau_8 : decode cX6_plateau 8 = .ok (.iconst 0, 1) := by decide +kernel
theorem dX6_plateau_9 : decode cX6_plateau 9 = .ok (.ldc 75, 2) := by decide +kernel
theorem dX6_plateau_11 : decode cX6_plateau 11 = .ok (.invokestatic 113, 3) := by decide +kernel
theorem dX6_plateau_14 : decode cX6_plateau 14 = .ok (.ifCond .eq 13, 3) := by decide +kernel
theorem dX6_plateau_17 : decode cX6_plateau 17 = .ok (.iload_n 3, 1) := by decide +kernel
theorem dX6_plateau_18 : decode cX6_plateau 18 = .ok (.iconst 1, 1) := by decide +kernel
theorem dX6_plateau_19 : decode cX6_plateau 19 = .ok (.bipush 40, 2) := by decide +kernel
theorem dX6_plateau_21 : decode cX6_plateau 21 = .ok (.invokestatic 113, 3) := by decide +kernel
theorem dX6_plateau_24 : decode cX6_plateau 24 = .ok (.ifCond .ne 5, 3) := by decide +kernel
theorem dX6_plateau_27 : decode cX6_plateau 27 = .ok (.iconst (-1), 1) := by decide +kernel
theorem dX6_plateau_28 : decode cX6_plateau 28 = .ok (.ireturn, 1) := by decide +kernel
theorem dX6_plateau_29 : decode cX6_plateau 29 = .ok (.aload_n 0, 1) := by decide +kernel
theorem dX6_plateau_30 : decode cX6_plateau 30 = .ok (.getfield 10, 3) := by decide +kernel
theorem dX6_plateau_33 : decode cX6_plateau 33 = .ok (.iload_n 1, 1) := by decide +kernel
theorem dX6_plateau_34 : decode cX6_plateau 34 = .ok (.invokevirtual 80, 3) := by decide +kernel
theorem dX6_plateau_37 : decode cX6_plateau 37 = .ok (.ifCond .eq 9, 3) := by decide +kernel
theorem dX6_plateau_40 : decode cX6_plateau 40 = .ok (.aload_n 0, 1) := by decide +kernel
theorem dX6_plateau_41 : decode cX6_plateau 41 = .ok (.iconst 1, 1) := by decide +kernel
theorem dX6_plateau_42 : decode cX6_plateau 42 = .ok (.invokevirtual 67, 3) := by decide +kernel
theorem dX6_plateau_45 : decode cX6_plateau 45 = .ok (.ireturn, 1) := by decide +kernel
theorem dX6_plateau_46 : decode cX6_plateau 46 = .ok (.aload_n 0, 1) := by decide +kernel
theorem dX6_plateau_47 : decode cX6_plateau 47 = .ok (.getfield 10, 3) := by decide +kernel
theorem dX6_plateau_50 : decode cX6_plateau 50 = .ok (.iload_n 1, 1) := by decide +kernel
theorem dX6_plateau_51 : decode cX6_plateau 51 = .ok (.iload_n 2, 1) := by decide +kernel
theorem dX6_plateau_52 : decode cX6_plateau 52 = .ok (.invokevirtual 116, 3) := by decide +kernel
theorem dX6_plateau_55 : decode cX6_plateau 55 = .ok (.istore 4, 2) := by decide +kernel
theorem dX6_plateau_57 : decode cX6_plateau 57 = .ok (.aload_n 0, 1) := by decide +kernel
theorem dX6_plateau_58 : decode cX6_plateau 58 = .ok (.getfield 10, 3) := by decide +kernel
theorem dX6_plateau_61 : decode cX6_plateau 61 = .ok (.iload_n 1, 1) := by decide +kernel
theorem dX6_plateau_62 : decode cX6_plateau 62 = .ok (.iload 4, 2) := by decide +kernel
theorem dX6_plateau_64 : decode cX6_plateau 64 = .ok (.iload_n 2, 1) := by decide +kernel
theorem dX6_plateau_65 : decode cX6_plateau 65 = .ok (.invokevirtual 119, 3) := by decide +kernel
theorem dX6_plateau_68 : decode cX6_plateau 68 = .ok (.istore 5, 2) := by decide +kernel
theorem dX6_plateau_70 : decode cX6_plateau 70 = .ok (.iload 5, 2) := by decide +kernel
theorem dX6_plateau_72 : decode cX6_plateau 72 = .ok (.iload_n 3, 1) := by decide +kernel
theorem dX6_plateau_73 : decode cX6_plateau 73 = .ok (.if_icmp .ge 6, 3) := by decide +kernel
theorem dX6_plateau_76 : decode cX6_plateau 76 = .ok (.bipush (-9), 2) := by decide +kernel
theorem dX6_plateau_78 : decode cX6_plateau 78 = .ok (.ireturn, 1) := by decide +kernel
theorem dX6_plateau_79 : decode cX6_plateau 79 = .ok (.aload_n 0, 1) := by decide +kernel
theorem dX6_plateau_80 : decode cX6_plateau 80 = .ok (.getfield 47, 3) := by decide +kernel
theorem dX6_plateau_83 : decode cX6_plateau 83 = .ok (.aload_n 0, 1) := by decide +kernel
theorem dX6_plateau_84 : decode cX6_plateau 84 = .ok (.getfield 10, 3) := by decide +kernel
theorem dX6_plateau_87 : decode cX6_plateau 87 = .ok (.iload_n 1, 1) := by decide +kernel
theorem dX6_plateau_88 : decode cX6_plateau 88 = .ok (.iload 4, 2) := by decide +kernel
theorem dX6_plateau_90 : decode cX6_plateau 90 = .ok (.iload 5, 2) := by decide +kernel
theorem dX6_plateau_92 : decode cX6_plateau 92 = .ok (.invokevirtual 109, 3) := by decide +kernel
theorem dX6_plateau_95 : decode cX6_plateau 95 = .ok (.i2l, 1) := by decide +kernel
theorem dX6_plateau_96 : decode cX6_plateau 96 = .ok (.iload 5, 2) := by decide +kernel
theorem dX6_plateau_98 : decode cX6_plateau 98 = .ok (.i2l, 1) := by decide +kernel
theorem dX6_plateau_99 : decode cX6_plateau 99 = .ok (.invokevirtual 122, 3) := by decide +kernel
theorem dX6_plateau_102 : decode cX6_plateau 102 = .ok (.aload_n 0, 1) := by decide +kernel
theorem dX6_plateau_103 : decode cX6_plateau 103 = .ok (.iload 5, 2) := by decide +kernel
theorem dX6_plateau_105 : decode cX6_plateau 105 = .ok (.i2l, 1) := by decide +kernel
theorem dX6_plateau_106 : decode cX6_plateau 106 = .ok (.putfield 59, 3) := by decide +kernel
theorem dX6_plateau_109 : decode cX6_plateau 109 = .ok (.iload 4, 2) := by decide +kernel
theorem dX6_plateau_111 : decode cX6_plateau 111 = .ok (.ireturn, 1) := by decide +kernel
set_option maxRecDepth 20000 in
theorem ggX6_point_X6_isTable : GoodIn wsX6_point wsX6_isTable := goodIn_r _ [5, 6, 7, 4, 8] (by decide +kernel) (by decide +kernel)
set_option maxRecDepth 20000 in
theorem gX6_point_X6_isTable : GoodIn wsX6_point (va_wsS RX6 126 yX6_isTable wsX6_isTable) := goodIn_app (goodIn_of _ (by decide +kernel)) ggX6_point_X6_isTable
set_option maxRecDepth 20000 in
theorem ggX6_point_X6_isWithin : GoodIn wsX6_point wsX6_isWithin := goodIn_r _ [11, 6, 7, 4, 8] (by decide +kernel) (by decide +kernel)
set_option maxRecDepth 20000 in
theorem gX6_point_X6_isWithin : GoodIn wsX6_point (va_wsS RX6 76 yX6_isWithin wsX6_isWithin) := goodIn_app (goodIn_of _ (by decide +kernel)) ggX6_point_X6_isWithin
set_option maxRecDepth 20000 in
theorem ggX6_point_X5_hasX : GoodIn wsX6_point wsX5_hasX := goodIn_r _ [16, 17, 18, 37, 38, 39] (by decide +kernel) (by decide +kernel)
set_option maxRecDepth 20000 in
theorem gX6_point_X5_hasX : GoodIn wsX6_point (wsV RX6 129 RX5 yX5_hasX wsX5_hasX) := goodIn_app (goodIn_of _ (by decide +kernel)) ggX6_point_X5_hasX
set_option maxRecDepth 20000 in
theorem ggX6_point_X5_sizeOf : GoodIn wsX6_point wsX5_sizeOf := goodIn_r _ [22, 17, 37, 38, 39] (by decide +kernel) (by decide +kernel)
set_option maxRecDepth 20000 in
theorem gX6_point_X5_sizeOf : GoodIn wsX6_point (wsV RX6 132 RX5 yX5_sizeOf wsX5_sizeOf) := goodIn_app (goodIn_of _ (by decide +kernel)) ggX6_point_X5_sizeOf
set_option maxRecDepth 20000 in
theorem ggX6_point_X5_add : GoodIn wsX6_point wsX5_add := goodIn_r _ [26, 17, 18, 27, 37, 38, 39] (by decide +kernel) (by decide +kernel)
set_option maxRecDepth 20000 in
theorem gX6_point_X5_add : GoodIn wsX6_point (wsV RX6 133 RX5 yX5_add wsX5_add) := goodIn_app (goodIn_of _ (by decide +kernel)) ggX6_point_X5_add
theorem dX6_point_0 : decode cX6_point 0 = .ok (.iload_n 1, 1) := by decide +kernel
theorem dX6_point_1 : decode cX6_point 1 = .ok (.invokestatic 126, 3) := by decide +kernel
theorem dX6_point_4 : decode cX6_point 4 = .ok (.ifCond .eq 34, 3) := by decide +kernel
theorem dX6_point_7 : decode cX6_point 7 = .ok (.iload_n 2, 1) := by decide +kernel
theorem dX6_point_8 : decode cX6_point 8 = .ok (.bipush 20, 2) := by decide +kernel
theorem dX6_point_10 : decode cX6_point 10 = .ok (.invokestatic 76, 3) := by decide +kernel
theorem dX6_point_13 : decode cX6_point 13 = .ok (.ifCond .eq 25, 3) := by decide +kernel
theorem dX6_point_16 : decode cX6_point 16 = .ok (.iload_n 3, 1) := by decide +kernel
theorem dX6_point_17 : decode cX6_point 17 = .ok (.sipush 10000, 3) := by decide +kernel
theorem dX6_point_20 : decode cX6_point 20 = .ok (.invokestatic 76, 3) := by decide +kernel
theorem dX6_point_23 : decode cX6_point 23 = .ok (.ifCond .eq 15, 3) := by decide +kernel
theorem dX6_point_26 : decode cX6_point 26 = .ok (.aload_n 0, 1) := by decide +kernel
theorem dX6_point_27 : decode cX6_point 27 = .ok (.getfield 19, 3) := by decide +kernel
theorem dX6_point_30 : decode cX6_point 30 = .ok (.iload_n 1, 1) := by decide +kernel
theorem dX6_point_31 : decode cX6_point 31 = .ok (.iload_n 2, 1) := by decide +kernel
theorem dX6_point_32 : decode cX6_point 32 = .ok (.invokevirtual 129, 3) := by decide +kernel
theorem dX6_point_35 : decode cX6_point 35 = .ok (.ifCond .eq 5, 3) := by decide +kernel
theorem dX6_point_38 : decode cX6_point 38 = .ok (.iconst (-1), 1) := by decide +kernel
theorem dX6_point_39 : decode cX6_point 39 = .ok (.ireturn, 1) := by decide +kernel
theorem dX6_point_40 : decode cX6_point 40 = .ok (.aload_n 0, 1) := by decide +kernel
theorem dX6_point_41 : decode cX6_point 41 = .ok (.getfield 19, 3) := by decide +kernel
theorem dX6_point_44 : decode cX6_point 44 = .ok (.iload_n 1, 1) := by decide +kernel
theorem dX6_point_45 : decode cX6_point 45 = .ok (.invokevirtual 132, 3) := by decide +kernel
theorem dX6_point_48 : decode cX6_point 48 = .ok (.iconst 4, 1) := by decide +kernel
theorem dX6_point_49 : decode cX6_point 49 = .ok (.if_icmp .lt 6, 3) := by decide +kernel
theorem dX6_point_52 : decode cX6_point 52 = .ok (.bipush (-2), 2) := by decide +kernel
theorem dX6_point_54 : decode cX6_point 54 = .ok (.ireturn, 1) := by decide +kernel
theorem dX6_point_55 : decode cX6_point 55 = .ok (.aload_n 0, 1) := by decide +kernel
theorem dX6_point_56 : decode cX6_point 56 = .ok (.getfield 19, 3) := by decide +kernel
theorem dX6_point_59 : decode cX6_point 59 = .ok (.iload_n 1, 1) := by decide +kernel
theorem dX6_point_60 : decode cX6_point 60 = .ok (.iload_n 2, 1) := by decide +kernel
theorem dX6_point_61 : decode cX6_point 61 = .ok (.iload_n 3, 1) := by decide +kernel
theorem dX6_point_62 : decode cX6_point 62 = .ok (.invokevirtual 133, 3) := by decide +kernel
theorem dX6_point_65 : decode cX6_point 65 = .ok (.ireturn, 1) := by decide +kernel
set_option maxRecDepth 20000 in
theorem ggX6_clear_X6_isTable : GoodIn wsX6_clear wsX6_isTable := goodIn_r _ [5, 6, 7, 4, 8] (by decide +kernel) (by decide +kernel)
set_option maxRecDepth 20000 in
theorem gX6_clear_X6_isTable : GoodIn wsX6_clear (va_wsS RX6 126 yX6_isTable wsX6_isTable) := goodIn_app (goodIn_of _ (by decide +kernel)) ggX6_clear_X6_isTable
set_option maxRecDepth 20000 in
theorem ggX6_clear_X5_empty : GoodIn wsX6_clear wsX5_empty := goodIn_r _ [13, 14, 24, 25, 26] (by decide +kernel) (by decide +kernel)
set_option maxRecDepth 20000 in
theorem gX6_clear_X5_empty : GoodIn wsX6_clear (wsV RX6 136 RX5 yX5_empty wsX5_empty) := goodIn_app (goodIn_of _ (by decide +kernel)) ggX6_clear_X5_empty
theorem dX6_clear_0 : decode cX6_clear 0 = .ok (.iload_n 1, 1) := by decide +kernel
theorem dX6_clear_1 : decode cX6_clear 1 = .ok (.invokestatic 126, 3) := by decide +kernel
theorem dX6_clear_4 : decode cX6_clear 4 = .ok (.ifCond .eq 14, 3) := by decide +kernel
theorem dX6_clear_7 : decode cX6_clear 7 = .ok (.aload_n 0, 1) := by decide +kernel
theorem dX6_clear_8 : decode cX6_clear 8 = .ok (.getfield 19, 3) := by decide +kernel
theorem dX6_clear_11 : decode cX6_clear 11 = .ok (.iload_n 1, 1) := by decide +kernel
theorem dX6_clear_12 : decode cX6_clear 12 = .ok (.invokevirtual 136, 3) := by decide +kernel
theorem dX6_clear_15 : decode cX6_clear 15 = .ok (.goto 4, 3) := by decide +kernel
theorem dX6_clear_18 : decode cX6_clear 18 = .ok (.iconst (-1), 1) := by decide +kernel
theorem dX6_clear_19 : decode cX6_clear 19 = .ok (.ireturn, 1) := by decide +kernel
set_option maxRecDepth 20000 in
theorem ggX6_curve_X6_isTable : GoodIn wsX6_curve wsX6_isTable := goodIn_r _ [6, 7, 8, 5, 9] (by decide +kernel) (by decide +kernel)
set_option maxRecDepth 20000 in
theorem gX6_curve_X6_isTable : GoodIn wsX6_curve (va_wsS RX6 126 yX6_isTable wsX6_isTable) := goodIn_app (goodIn_of _ (by decide +kernel)) ggX6_curve_X6_isTable
set_option maxRecDepth 20000 in
theorem ggX6_curve_X6_isWithin : GoodIn wsX6_curve wsX6_isWithin := goodIn_r _ [12, 7, 8, 5, 9] (by decide +kernel) (by decide +kernel)
set_option maxRecDepth 20000 in
theorem gX6_curve_X6_isWithin : GoodIn wsX6_curve (va_wsS RX6 76 yX6_isWithin wsX6_isWithin) := goodIn_app (goodIn_of _ (by decide +kernel)) ggX6_curve_X6_isWithin
set_option maxRecDepth 20000 in
theorem ggX6_curve_X5_sizeOf : GoodIn wsX6_curve wsX5_sizeOf := goodIn_r _ [17, 18, 58, 59, 60] (by decide +kernel) (by decide +kernel)
set_option maxRecDepth 20000 in
theorem gX6_curve_X5_sizeOf : GoodIn wsX6_curve (wsV RX6 132 RX5 yX5_sizeOf wsX5_sizeOf) := goodIn_app (goodIn_of _ (by decide +kernel)) ggX6_curve_X5_sizeOf
set_option maxRecDepth 20000 in
theorem ggX6_curve_X5_commonLower : GoodIn wsX6_curve wsX5_commonLower := goodIn_r _ [22, 18, 23, 24, 25, 26, 16, 27, 28, 5, 29, 30, 31, 32, 33, 34, 35, 36, 58, 59, 60] (by decide +kernel) (by decide +kernel)
set_option maxRecDepth 20000 in
theorem gX6_curve_X5_commonLower : GoodIn wsX6_curve (wsV RX6 139 RX5 yX5_commonLower wsX5_commonLower) := goodIn_app (goodIn_of _ (by decide +kernel)) ggX6_curve_X5_commonLower
set_option maxRecDepth 20000 in
theorem ggX6_curve_X5_worthAt : GoodIn wsX6_curve wsX5_worthAt := goodIn_r _ [40, 18, 23, 41, 24, 25, 26, 16, 27, 58, 59, 60] (by decide +kernel) (by decide +kernel)
set_option maxRecDepth 20000 in
theorem gX6_curve_X5_worthAt : GoodIn wsX6_curve (wsV RX6 143 RX5 yX5_worthAt wsX5_worthAt) := goodIn_app (goodIn_of _ (by decide +kernel)) ggX6_curve_X5_worthAt
set_option maxRecDepth 20000 in
theorem ggX6_curve_X2_tell : GoodIn wsX6_curve wsX2_tell := goodIn_r _ [46, 47, 48, 35, 5, 36, 30, 31, 32, 33, 61, 62] (by decide +kernel) (by decide +kernel)
set_option maxRecDepth 20000 in
theorem gX6_curve_X2_tell : GoodIn wsX6_curve (wsV RX6 122 RX2 yX2_tell wsX2_tell) := goodIn_app (goodIn_of _ (by decide +kernel)) ggX6_curve_X2_tell
theorem dX6_curve_0 : decode cX6_curve 0 = .ok (.iload_n 1, 1) := by decide +kernel
theorem dX6_curve_1 : decode cX6_curve 1 = .ok (.invokestatic 126, 3) := by decide +kernel
theorem dX6_curve_4 : decode cX6_curve 4 = .ok (.ifCond .eq 12, 3) := by decide +kernel
theorem dX6_curve_7 : decode cX6_curve 7 = .ok (.iload_n 2, 1) := by decide +kernel
theorem dX6_curve_8 : decode cX6_curve 8 = .ok (.bipush 20, 2) := by decide +kernel
theorem dX6_curve_10 : decode cX6_curve 10 = .ok (.invokestatic 76, 3) := by decide +kernel
theorem dX6_curve_13 : decode cX6_curve 13 = .ok (.ifCond .ne 5, 3) := by decide +kernel
theorem dX6_curve_16 : decode cX6_curve 16 = .ok (.iconst (-1), 1) := by decide +kernel
theorem dX6_curve_17 : decode cX6_curve 17 = .ok (.ireturn, 1) := by decide +kernel
theorem dX6_curve_18 : decode cX6_curve 18 = .ok (.aload_n 0, 1) := by decide +kernel
theorem dX6_curve_19 : decode cX6_curve 19 = .ok (.getfield 19, 3) := by decide +kernel
theorem dX6_curve_22 : decode cX6_curve 22 = .ok (.iload_n 1, 1) := by decide +kernel
theorem dX6_curve_23 : decode cX6_curve 23 = .ok (.invokevirtual 132, 3) := by decide +kernel
theorem dX6_curve_26 : decode cX6_curve 26 = .ok (.ifCond .ne 6, 3) := by decide +kernel
theorem dX6_curve_29 : decode cX6_curve 29 = .ok (.bipush (-4), 2) := by decide +kernel
theorem dX6_curve_31 : decode cX6_curve 31 = .ok (.ireturn, 1) := by decide +kernel
theorem dX6_curve_32 : decode cX6_curve 32 = .ok (.aload_n 0, 1) := by decide +kernel
theorem dX6_curve_33 : decode cX6_curve 33 = .ok (.getfield 19, 3) := by decide +kernel
theorem dX6_curve_36 : decode cX6_curve 36 = .ok (.iload_n 1, 1) := by decide +kernel
theorem dX6_curve_37 : decode cX6_curve 37 = .ok (.invokevirtual 139, 3) := by decide +kernel
theorem dX6_curve_40 : decode cX6_curve 40 = .ok (.lstore_n 3, 1) := by decide +kernel
theorem dX6_curve_41 : decode cX6_curve 41 = .ok (.aload_n 0, 1) := by decide +kernel
theorem dX6_curve_42 : decode cX6_curve 42 = .ok (.getfield 47, 3) := by decide +kernel
theorem dX6_curve_45 : decode cX6_curve 45 = .ok (.aload_n 0, 1) := by decide +kernel
theorem dX6_curve_46 : decode cX6_curve 46 = .ok (.getfield 19, 3) := by decide +kernel
theorem dX6_curve_49 : decode cX6_curve 49 = .ok (.iload_n 1, 1) := by decide +kernel
theorem dX6_curve_50 : decode cX6_curve 50 = .ok (.iload_n 2, 1) := by decide +kernel
theorem dX6_curve_51 : decode cX6_curve 51 = .ok (.lload_n 3, 1) := by decide +kernel
theorem dX6_curve_52 : decode cX6_curve 52 = .ok (.invokevirtual 143, 3) := by decide +kernel
theorem dX6_curve_55 : decode cX6_curve 55 = .ok (.lload_n 3, 1) := by decide +kernel
theorem dX6_curve_56 : decode cX6_curve 56 = .ok (.invokevirtual 122, 3) := by decide +kernel
theorem dX6_curve_59 : decode cX6_curve 59 = .ok (.iconst 1, 1) := by decide +kernel
theorem dX6_curve_60 : decode cX6_curve 60 = .ok (.ireturn, 1) := by decide +kernel
set_option maxRecDepth 20000 in
theorem ggX6_apart_X6_isTable : GoodIn wsX6_apart wsX6_isTable := goodIn_r _ [11, 12, 13, 10, 14] (by decide +kernel) (by decide +kernel)
set_option maxRecDepth 20000 in
theorem gX6_apart_X6_isTable : GoodIn wsX6_apart (va_wsS RX6 126 yX6_isTable wsX6_isTable) := goodIn_app (goodIn_of _ (by decide +kernel)) ggX6_apart_X6_isTable
set_option maxRecDepth 20000 in
theorem ggX6_apart_X6_isWithin : GoodIn wsX6_apart wsX6_isWithin := goodIn_r _ [17, 12, 13, 10, 14] (by decide +kernel) (by decide +kernel)
set_option maxRecDepth 20000 in
theorem gX6_apart_X6_isWithin : GoodIn wsX6_apart (va_wsS RX6 76 yX6_isWithin wsX6_isWithin) := goodIn_app (goodIn_of _ (by decide +kernel)) ggX6_apart_X6_isWithin
set_option maxRecDepth 20000 in
theorem ggX6_apart_X5_sizeOf : GoodIn wsX6_apart wsX5_sizeOf := goodIn_r _ [22, 23, 60, 61, 62] (by decide +kernel) (by decide +kernel)
set_option maxRecDepth 20000 in
theorem gX6_apart_X5_sizeOf : GoodIn wsX6_apart (wsV RX6 132 RX5 yX5_sizeOf wsX5_sizeOf) := goodIn_app (goodIn_of _ (by decide +kernel)) ggX6_apart_X5_sizeOf
set_option maxRecDepth 20000 in
theorem ggX6_apart_X5_commonLower : GoodIn wsX6_apart wsX5_commonLower := goodIn_r _ [27, 23, 28, 29, 30, 31, 21, 32, 33, 10, 34, 3, 4, 5, 6, 35, 36, 37, 60, 61, 62] (by decide +kernel) (by decide +kernel)
set_option maxRecDepth 20000 in
theorem gX6_apart_X5_commonLower : GoodIn wsX6_apart (wsV RX6 139 RX5 yX5_commonLower wsX5_commonLower) := goodIn_app (goodIn_of _ (by decide +kernel)) ggX6_apart_X5_commonLower
set_option maxRecDepth 20000 in
theorem ggX6_apart_X6_leastMultiple : GoodIn wsX6_apart wsX6_leastMultiple := goodIn_r _ [34, 3, 4, 5, 6, 35, 36, 10, 37] (by decide +kernel) (by decide +kernel)
set_option maxRecDepth 20000 in
theorem gX6_apart_X6_leastMultiple : GoodIn wsX6_apart (va_wsS RX6 147 yX6_leastMultiple wsX6_leastMultiple) := goodIn_app (goodIn_of _ (by decide +kernel)) ggX6_apart_X6_leastMultiple
set_option maxRecDepth 20000 in
theorem ggX6_apart_X5_worthAt : GoodIn wsX6_apart wsX5_worthAt := goodIn_r _ [42, 23, 28, 43, 29, 30, 31, 21, 32, 60, 61, 62] (by decide +kernel) (by decide +kernel)
set_option maxRecDepth 20000 in
theorem gX6_apart_X5_worthAt : GoodIn wsX6_apart (wsV RX6 143 RX5 yX5_worthAt wsX5_worthAt) := goodIn_app (goodIn_of _ (by decide +kernel)) ggX6_apart_X5_worthAt
set_option maxRecDepth 20000 in
theorem ggX6_apart_X2_tell : GoodIn wsX6_apart wsX2_tell := goodIn_r _ [48, 49, 50, 36, 10, 37, 3, 4, 5, 6, 63, 64] (by decide +kernel) (by decide +kernel)
set_option maxRecDepth 20000 in
theorem gX6_apart_X2_tell : GoodIn wsX6_apart (wsV RX6 122 RX2 yX2_tell wsX2_tell) := goodIn_app (goodIn_of _ (by decide +kernel)) ggX6_apart_X2_tell
theorem dX6_apart_0 : decode cX6_apart 0 = .ok (.iload_n 1, 1) := by decide +kernel
theorem dX6_apart_1 : decode cX6_apart 1 = .ok (.invokestatic 126, 3) := by decide +kernel
theorem dX6_apart_4 : decode cX6_apart 4 = .ok (.ifCond .eq 35, 3) := by decide +kernel
theorem dX6_apart_7 : decode cX6_apart 7 = .ok (.iload_n 2, 1) := by decide +kernel
theorem dX6_apart_8 : decode cX6_apart 8 = .ok (.invokestatic 126, 3) := by decide +kernel
theorem dX6_apart_11 : decode cX6_apart 11 = .ok (.ifCond .eq 28, 3) := by decide +kernel
theorem dX6_apart_14 : decode cX6_apart 14 = .ok (.iload_n 3, 1) := by decide +kernel
theorem dX6_apart_15 : decode cX6_apart 15 = .ok (.bipush 20, 2) := by decide +kernel
theorem dX6_apart_17 : decode cX6_apart 17 = .ok (.invokestatic 76, 3) := by decide +kernel
theorem dX6_apart_20 : decode cX6_apart 20 = .ok (.ifCond .eq 19, 3) := by decide +kernel
theorem dX6_apart_23 : decode cX6_apart 23 = .ok (.iload 4, 2) := by decide +kernel
theorem dX6_apart_25 : decode cX6_apart 25 = .ok (.bipush 20, 2) := by decide +kernel
theorem dX6_apart_27 : decode cX6_apart 27 = .ok (.invokestatic 76, 3) := by decide +kernel
theorem dX6_apart_30 : decode cX6_apart 30 = .ok (.ifCond .eq 9, 3) := by decide +kernel
theorem dX6_apart_33 : decode cX6_apart 33 = .ok (.iload_n 3, 1) := by decide +kernel
theorem dX6_apart_34 : decode cX6_apart 34 = .ok (.iload 4, 2) := by decide +kernel
theorem dX6_apart_36 : decode cX6_apart 36 = .ok (.if_icmp .le 5, 3) := by decide +kernel
theorem dX6_apart_39 : decode cX6_apart 39 = .ok (.iconst (-1), 1) := by decide +kernel
theorem dX6_apart_40 : decode cX6_apart 40 = .ok (.ireturn, 1) := by decide +kernel
theorem dX6_apart_41 : decode cX6_apart 41 = .ok (.aload_n 0, 1) := by decide +kernel
theorem dX6_apart_42 : decode cX6_apart 42 = .ok (.getfield 19, 3) := by decide +kernel
theorem dX6_apart_45 : decode cX6_apart 45 = .ok (.iload_n 1, 1) := by decide +kernel
theorem dX6_apart_46 : decode cX6_apart 46 = .ok (.invokevirtual 132, 3) := by decide +kernel
theorem dX6_apart_49 : decode cX6_apart 49 = .ok (.ifCond .eq 14, 3) := by decide +kernel
theorem dX6_apart_52 : decode cX6_apart 52 = .ok (.aload_n 0, 1) := by decide +kernel
theorem dX6_apart_53 : decode cX6_apart 53 = .ok (.getfield 19, 3) := by decide +kernel
theorem dX6_apart_56 : decode cX6_apart 56 = .ok (.iload_n 2, 1) := by decide +kernel
theorem dX6_apart_57 : decode cX6_apart 57 = .ok (.invokevirtual 132, 3) := by decide +kernel
theorem dX6_apart_60 : decode cX6_apart 60 = .ok (.ifCond .ne 6, 3) := by decide +kernel
theorem dX6_apart_63 : decode cX6_apart 63 = .ok (.bipush (-4), 2) := by decide +kernel
theorem dX6_apart_65 : decode cX6_apart 65 = .ok (.ireturn, 1) := by decide +kernel
theorem dX6_apart_66 : decode cX6_apart 66 = .ok (.aload_n 0, 1) := by decide +kernel
theorem dX6_apart_67 : decode cX6_apart 67 = .ok (.getfield 19, 3) := by decide +kernel
theorem dX6_apart_70 : decode cX6_apart 70 = .ok (.iload_n 1, 1) := by decide +kernel
theorem dX6_apart_71 : decode cX6_apart 71 = .ok (.invokevirtual 139, 3) := by decide +kernel
theorem dX6_apart_74 : decode cX6_apart 74 = .ok (.aload_n 0, 1) := by decide +kernel
theorem dX6_apart_75 : decode cX6_apart 75 = .ok (.getfield 19, 3) := by decide +kernel
theorem dX6_apart_78 : decode cX6_apart 78 = .ok (.iload_n 2, 1) := by decide +kernel
theorem dX6_apart_79 : decode cX6_apart 79 = .ok (.invokevirtual 139, 3) := by decide +kernel
theorem dX6_apart_82 : decode cX6_apart 82 = .ok (.invokestatic 147, 3) := by decide +kernel
theorem dX6_apart_85 : decode cX6_apart 85 = .ok (.lstore 5, 2) := by decide +kernel
theorem dX6_apart_87 : decode cX6_apart 87 = .ok (.iload_n 3, 1) := by decide +kernel
theorem dX6_apart_88 : decode cX6_apart 88 = .ok (.istore 7, 2) := by decide +kernel
theorem dX6_apart_90 : decode cX6_apart 90 = .ok (.ldc2_w 151, 3) := by decide +kernel
theorem dX6_apart_93 : decode cX6_apart 93 = .ok (.lstore 8, 2) := by decide +kernel
theorem dX6_apart_95 : decode cX6_apart 95 = .ok (.iload_n 3, 1) := by decide +kernel
theorem dX6_apart_96 : decode cX6_apart 96 = .ok (.istore 10, 2) := by decide +kernel
theorem dX6_apart_98 : decode cX6_apart 98 = .ok (.iload 10, 2) := by decide +kernel
theorem dX6_apart_100 : decode cX6_apart 100 = .ok (.iload 4, 2) := by decide +kernel
theorem dX6_apart_102 : decode cX6_apart 102 = .ok (.if_icmp .gt 55, 3) := by decide +kernel
theorem dX6_apart_105 : decode cX6_apart 105 = .ok (.aload_n 0, 1) := by decide +kernel
theorem dX6_apart_106 : decode cX6_apart 106 = .ok (.getfield 19, 3) := by decide +kernel
theorem dX6_apart_109 : decode cX6_apart 109 = .ok (.iload_n 1, 1) := by decide +kernel
theorem dX6_apart_110 : decode cX6_apart 110 = .ok (.iload 10, 2) := by decide +kernel
theorem dX6_apart_112 : decode cX6_apart 112 = .ok (.lload 5, 2) := by decide +kernel
theorem dX6_apart_114 : decode cX6_apart 114 = .ok (.invokevirtual 143, 3) := by decide +kernel
theorem dX6_apart_117 : decode cX6_apart 117 = .ok (.aload_n 0, 1) := by decide +kernel
theorem dX6_apart_118 : decode cX6_apart 118 = .ok (.getfield 19, 3) := by decide +kernel
theorem dX6_apart_121 : decode cX6_apart 121 = .ok (.iload_n 2, 1) := by decide +kernel
theorem dX6_apart_122 : decode cX6_apart 122 = .ok (.iload 10, 2) := by decide +kernel
theorem dX6_apart_124 : decode cX6_apart 124 = .ok (.lload 5, 2) := by decide +kernel
theorem dX6_apart_126 : decode cX6_apart 126 = .ok (.invokevirtual 143, 3) := by decide +kernel
theorem dX6_apart_129 : decode cX6_apart 129 = .ok (.lsub, 1) := by decide +kernel
theorem dX6_apart_130 : decode cX6_apart 130 = .ok (.invokestatic 153, 3) := by decide +kernel
theorem dX6_apart_133 : decode cX6_apart 133 = .ok (.lstore 11, 2) := by decide +kernel
theorem dX6_apart_135 : decode cX6_apart 135 = .ok (.lload 11, 2) := by decide +kernel
theorem dX6_apart_137 : decode cX6_apart 137 = .ok (.lload 8, 2) := by decide +kernel
theorem dX6_apart_139 : decode cX6_apart 139 = .ok (.lcmp, 1) := by decide +kernel
theorem dX6_apart_140 : decode cX6_apart 140 = .ok (.ifCond .le 11, 3) := by decide +kernel
theorem dX6_apart_143 : decode cX6_apart 143 = .ok (.lload 11, 2) := by decide +kernel
theorem dX6_apart_145 : decode cX6_apart 145 = .ok (.lstore 8, 2) := by decide +kernel
theorem dX6_apart_147 : decode cX6_apart 147 = .ok (.iload 10, 2) := by decide +kernel
theorem dX6_apart_149 : decode cX6_apart 149 = .ok (.istore 7, 2) := by decide +kernel
theorem dX6_apart_151 : decode cX6_apart 151 = .ok (.iinc 10 1, 3) := by decide +kernel
theorem dX6_apart_154 : decode cX6_apart 154 = .ok (.goto (-56), 3) := by decide +kernel
theorem dX6_apart_157 : decode cX6_apart 157 = .ok (.aload_n 0, 1) := by decide +kernel
theorem dX6_apart_158 : decode cX6_apart 158 = .ok (.getfield 47, 3) := by decide +kernel
theorem dX6_apart_161 : decode cX6_apart 161 = .ok (.lload 8, 2) := by decide +kernel
theorem dX6_apart_163 : decode cX6_apart 163 = .ok (.lload 5, 2) := by decide +kernel
theorem dX6_apart_165 : decode cX6_apart 165 = .ok (.invokevirtual 122, 3) := by decide +kernel
theorem dX6_apart_168 : decode cX6_apart 168 = .ok (.iload 7, 2) := by decide +kernel
theorem dX6_apart_170 : decode cX6_apart 170 = .ok (.bipush 100, 2) := by decide +kernel
theorem dX6_apart_172 : decode cX6_apart 172 = .ok (.iadd, 1) := by decide +kernel
theorem dX6_apart_173 : decode cX6_apart 173 = .ok (.ireturn, 1) := by decide +kernel
set_option maxRecDepth 20000 in
theorem ggX6_bulb_X6_isBetween : GoodIn wsX6_bulb wsX6_isBetween := goodIn_r _ [5] (by decide +kernel) (by decide +kernel)
set_option maxRecDepth 20000 in
theorem gX6_bulb_X6_isBetween : GoodIn wsX6_bulb (va_wsS RX6 113 yX6_isBetween wsX6_isBetween) := goodIn_app (goodIn_of _ (by decide +kernel)) ggX6_bulb_X6_isBetween
set_option maxRecDepth 20000 in
theorem ggX6_bulb_X0_size : GoodIn wsX6_bulb wsX0_size := goodIn_r _ [10, 11, 27, 28, 29] (by decide +kernel) (by decide +kernel)
set_option maxRecDepth 20000 in
theorem gX6_bulb_X0_size : GoodIn wsX6_bulb (wsV RX6 159 RX0 yX0_size wsX0_size) := goodIn_app (goodIn_of _ (by decide +kernel)) ggX6_bulb_X0_size
set_option maxRecDepth 20000 in
theorem ggX6_bulb_X0_add : GoodIn wsX6_bulb wsX0_add := goodIn_r _ [15, 16, 11, 17, 27, 28, 29] (by decide +kernel) (by decide +kernel)
set_option maxRecDepth 20000 in
theorem gX6_bulb_X0_add : GoodIn wsX6_bulb (wsV RX6 163 RX0 yX0_add wsX0_add) := goodIn_app (goodIn_of _ (by decide +kernel)) ggX6_bulb_X0_add
theorem dX6_bulb_0 : decode cX6_bulb 0 = .ok (.iload_n 1, 1) := by decide +kernel
theorem dX6_bulb_1 : decode cX6_bulb 1 = .ok (.iconst 0, 1) := by decide +kernel
theorem dX6_bulb_2 : decode cX6_bulb 2 = .ok (.iconst 3, 1) := by decide +kernel
theorem dX6_bulb_3 : decode cX6_bulb 3 = .ok (.invokestatic 113, 3) := by decide +kernel
theorem dX6_bulb_6 : decode cX6_bulb 6 = .ok (.ifCond .eq 14, 3) := by decide +kernel
theorem dX6_bulb_9 : decode cX6_bulb 9 = .ok (.iload_n 2, 1) := by decide +kernel
theorem dX6_bulb_10 : decode cX6_bulb 10 = .ok (.iconst 0, 1) := by decide +kernel
theorem dX6_bulb_11 : decode cX6_bulb 11 = .ok (.sipush 10000, 3) := by decide +kernel
theorem dX6_bulb_14 : decode cX6_bulb 14 = .ok (.invokestatic 113, 3) := by decide +kernel
theorem dX6_bulb_17 : decode cX6_bulb 17 = .ok (.ifCond .ne 5, 3) := by decide +kernel
theorem dX6_bulb_20 : decode cX6_bulb 20 = .ok (.iconst (-1), 1) := by decide +kernel
theorem dX6_bulb_21 : decode cX6_bulb 21 = .ok (.ireturn, 1) := by decide +kernel
theorem dX6_bulb_22 : decode cX6_bulb 22 = .ok (.aload_n 0, 1) := by decide +kernel
theorem dX6_bulb_23 : decode cX6_bulb 23 = .ok (.getfield 26, 3) := by decide +kernel
theorem dX6_bulb_26 : decode cX6_bulb 26 = .ok (.invokevirtual 159, 3) := by decide +kernel
theorem dX6_bulb_29 : decode cX6_bulb 29 = .ok (.bipush 16, 2) := by decide +kernel
theorem dX6_bulb_31 : decode cX6_bulb 31 = .ok (.if_icmp .lt 8, 3) := by decide +kernel
theorem dX6_bulb_34 : decode cX6_bulb 34 = .ok (.bipush (-2), 2) := by decide +kernel
theorem dX6_bulb_36 : decode cX6_bulb 36 = .ok (.goto 12, 3) := by decide +kernel
theorem dX6_bulb_39 : decode cX6_bulb 39 = .ok (.aload_n 0, 1) := by decide +kernel
theorem dX6_bulb_40 : decode cX6_bulb 40 = .ok (.getfield 26, 3) := by decide +kernel
theorem dX6_bulb_43 : decode cX6_bulb 43 = .ok (.iload_n 1, 1) := by decide +kernel
theorem dX6_bulb_44 : decode cX6_bulb 44 = .ok (.iload_n 2, 1) := by decide +kernel
theorem dX6_bulb_45 : decode cX6_bulb 45 = .ok (.invokevirtual 163, 3) := by decide +kernel
theorem dX6_bulb_48 : decode cX6_bulb 48 = .ok (.ireturn, 1) := by decide +kernel
set_option maxRecDepth 20000 in
theorem ggX6_told_X0_has : GoodIn wsX6_told wsX0_has := goodIn_r _ [7, 8, 9, 10, 11, 51, 52, 53] (by decide +kernel) (by decide +kernel)
set_option maxRecDepth 20000 in
theorem gX6_told_X0_has : GoodIn wsX6_told (wsV RX6 165 RX0 yX0_has wsX0_has) := goodIn_app (goodIn_of _ (by decide +kernel)) ggX6_told_X0_has
set_option maxRecDepth 20000 in
theorem ggX6_told_X0_kindOf : GoodIn wsX6_told wsX0_kindOf := goodIn_r _ [15, 16, 51, 52, 53] (by decide +kernel) (by decide +kernel)
set_option maxRecDepth 20000 in
theorem gX6_told_X0_kindOf : GoodIn wsX6_told (wsV RX6 168 RX0 yX0_kindOf wsX0_kindOf) := goodIn_app (goodIn_of _ (by decide +kernel)) ggX6_told_X0_kindOf
set_option maxRecDepth 20000 in
theorem ggX6_told_X0_toleranceOf : GoodIn wsX6_told wsX0_toleranceOf := goodIn_r _ [20, 21, 51, 52, 53] (by decide +kernel) (by decide +kernel)
set_option maxRecDepth 20000 in
theorem gX6_told_X0_toleranceOf : GoodIn wsX6_told (wsV RX6 171 RX0 yX0_toleranceOf wsX0_toleranceOf) := goodIn_app (goodIn_of _ (by decide +kernel)) ggX6_told_X0_toleranceOf
set_option maxRecDepth 20000 in
theorem ggX6_told_X1_countOf : GoodIn wsX6_told wsX1_countOf := goodIn_r _ [26, 27, 28, 54, 55] (by decide +kernel) (by decide +kernel)
set_option maxRecDepth 20000 in
theorem gX6_told_X1_countOf : GoodIn wsX6_told (wsV RX6 174 RX1 yX1_countOf wsX1_countOf) := goodIn_app (goodIn_of _ (by decide +kernel)) ggX6_told_X1_countOf
set_option maxRecDepth 20000 in
theorem ggX6_told_X1_latestOf : GoodIn wsX6_told wsX1_latestOf := goodIn_r _ [32, 33, 27, 34, 35, 36, 25, 37, 38, 39, 40, 41, 28, 54, 55] (by decide +kernel) (by decide +kernel)
set_option maxRecDepth 20000 in
theorem gX6_told_X1_latestOf : GoodIn wsX6_told (wsV RX6 178 RX1 yX1_latestOf wsX1_latestOf) := goodIn_app (goodIn_of _ (by decide +kernel)) ggX6_told_X1_latestOf
theorem dX6_told_0 : decode cX6_told 0 = .ok (.aload_n 0, 1) := by decide +kernel
theorem dX6_told_1 : decode cX6_told 1 = .ok (.getfield 26, 3) := by decide +kernel
theorem dX6_told_4 : decode cX6_told 4 = .ok (.iload_n 1, 1) := by decide +kernel
theorem dX6_told_5 : decode cX6_told 5 = .ok (.invokevirtual 165, 3) := by decide +kernel
theorem dX6_told_8 : decode cX6_told 8 = .ok (.ifCond .ne 5, 3) := by decide +kernel
theorem dX6_told_11 : decode cX6_told 11 = .ok (.iconst (-1), 1) := by decide +kernel
theorem dX6_told_12 : decode cX6_told 12 = .ok (.ireturn, 1) := by decide +kernel
theorem dX6_told_13 : decode cX6_told 13 = .ok (.iload_n 2, 1) := by decide +kernel
theorem dX6_told_14 : decode cX6_told 14 = .ok (.tableswitch 94 0 4 #[34, 43, 52, 63, 85], 34) := by decide +kernel
theorem dX6_told_48 : decode cX6_told 48 = .ok (.aload_n 0, 1) := by decide +kernel
theorem dX6_told_49 : decode cX6_told 49 = .ok (.getfield 26, 3) := by decide +kernel
theorem dX6_told_52 : decode cX6_told 52 = .ok (.iload_n 1, 1) := by decide +kernel
theorem dX6_told_53 : decode cX6_told 53 = .ok (.invokevirtual 168, 3) := by decide +kernel
theorem dX6_told_56 : decode cX6_told 56 = .ok (.ireturn, 1) := by decide +kernel
theorem dX6_told_57 : decode cX6_told 57 = .ok (.aload_n 0, 1) := by decide +kernel
theorem dX6_told_58 : decode cX6_told 58 = .ok (.getfield 26, 3) := by decide +kernel
theorem dX6_told_61 : decode cX6_told 61 = .ok (.iload_n 1, 1) := by decide +kernel
theorem dX6_told_62 : decode cX6_told 62 = .ok (.invokevirtual 171, 3) := by decide +kernel
theorem dX6_told_65 : decode cX6_told 65 = .ok (.ireturn, 1) := by decide +kernel
theorem dX6_told_66 : decode cX6_told 66 = .ok (.aload_n 0, 1) := by decide +kernel
theorem dX6_told_67 : decode cX6_told 67 = .ok (.getfield 33, 3) := by decide +kernel
theorem dX6_told_70 : decode cX6_told 70 = .ok (.iconst 0, 1) := by decide +kernel
theorem dX6_told_71 : decode cX6_told 71 = .ok (.iload_n 1, 1) := by decide +kernel
theorem dX6_told_72 : decode cX6_told 72 = .ok (.iconst 0, 1) := by decide +kernel
theorem dX6_told_73 : decode cX6_told 73 = .ok (.invokevirtual 174, 3) := by decide +kernel
theorem dX6_told_76 : decode cX6_told 76 = .ok (.ireturn, 1) := by decide +kernel
theorem dX6_told_77 : decode cX6_told 77 = .ok (.aload_n 0, 1) := by decide +kernel
theorem dX6_told_78 : decode cX6_told 78 = .ok (.getfield 33, 3) := by decide +kernel
theorem dX6_told_81 : decode cX6_told 81 = .ok (.iconst 0, 1) := by decide +kernel
theorem dX6_told_82 : decode cX6_told 82 = .ok (.iload_n 1, 1) := by decide +kernel
theorem dX6_told_83 : decode cX6_told 83 = .ok (.iconst 0, 1) := by decide +kernel
theorem dX6_told_84 : decode cX6_told 84 = .ok (.invokevirtual 174, 3) := by decide +kernel
theorem dX6_told_87 : decode cX6_told 87 = .ok (.aload_n 0, 1) := by decide +kernel
theorem dX6_told_88 : decode cX6_told 88 = .ok (.getfield 33, 3) := by decide +kernel
theorem dX6_told_91 : decode cX6_told 91 = .ok (.iconst 0, 1) := by decide +kernel
theorem dX6_told_92 : decode cX6_told 92 = .ok (.iload_n 1, 1) := by decide +kernel
theorem dX6_told_93 : decode cX6_told 93 = .ok (.iconst 1, 1) := by decide +kernel
theorem dX6_told_94 : decode cX6_told 94 = .ok (.invokevirtual 174, 3) := by decide +kernel
theorem dX6_told_97 : decode cX6_told 97 = .ok (.isub, 1) := by decide +kernel
theorem dX6_told_98 : decode cX6_told 98 = .ok (.ireturn, 1) := by decide +kernel
theorem dX6_told_99 : decode cX6_told 99 = .ok (.aload_n 0, 1) := by decide +kernel
theorem dX6_told_100 : decode cX6_told 100 = .ok (.getfield 33, 3) := by decide +kernel
theorem dX6_told_103 : decode cX6_told 103 = .ok (.iload_n 1, 1) := by decide +kernel
theorem dX6_told_104 : decode cX6_told 104 = .ok (.invokevirtual 178, 3) := by decide +kernel
theorem dX6_told_107 : decode cX6_told 107 = .ok (.ireturn, 1) := by decide +kernel
theorem dX6_told_108 : decode cX6_told 108 = .ok (.iconst (-1), 1) := by decide +kernel
theorem dX6_told_109 : decode cX6_told 109 = .ok (.ireturn, 1) := by decide +kernel
set_option maxRecDepth 20000 in
theorem ggX6_mark_X0_has : GoodIn wsX6_mark wsX0_has := goodIn_r _ [7, 8, 9, 10, 11, 57, 58, 59] (by decide +kernel) (by decide +kernel)
set_option maxRecDepth 20000 in
theorem gX6_mark_X0_has : GoodIn wsX6_mark (wsV RX6 165 RX0 yX0_has wsX0_has) := goodIn_app (goodIn_of _ (by decide +kernel)) ggX6_mark_X0_has
set_option maxRecDepth 20000 in
theorem ggX6_mark_X6_isBetween : GoodIn wsX6_mark wsX6_isBetween := goodIn_r _ [11] (by decide +kernel) (by decide +kernel)
set_option maxRecDepth 20000 in
theorem gX6_mark_X6_isBetween : GoodIn wsX6_mark (va_wsS RX6 113 yX6_isBetween wsX6_isBetween) := goodIn_app (goodIn_of _ (by decide +kernel)) ggX6_mark_X6_isBetween
set_option maxRecDepth 20000 in
theorem ggX6_mark_X0_isOf : GoodIn wsX6_mark wsX0_isOf := goodIn_r _ [16, 17, 57, 58, 59] (by decide +kernel) (by decide +kernel)
set_option maxRecDepth 20000 in
theorem gX6_mark_X0_isOf : GoodIn wsX6_mark (wsV RX6 181 RX0 yX0_isOf wsX0_isOf) := goodIn_app (goodIn_of _ (by decide +kernel)) ggX6_mark_X0_isOf
set_option maxRecDepth 20000 in
theorem ggX6_mark_X6_refuse : GoodIn wsX6_mark wsX6_refuse := goodIn_r _ [21, 22, 23, 12, 9, 10, 11, 48, 49, 50, 51, 52, 53, 54, 55, 56] (by decide +kernel) (by decide +kernel)
set_option maxRecDepth 20000 in
theorem gX6_mark_X6_refuse : GoodIn wsX6_mark (wsV RX6 67 RX6 yX6_refuse wsX6_refuse) := goodIn_app (goodIn_of _ (by decide +kernel)) ggX6_mark_X6_refuse
set_option maxRecDepth 20000 in
theorem ggX6_mark_X0_toleranceOf : GoodIn wsX6_mark wsX0_toleranceOf := goodIn_r _ [27, 28, 57, 58, 59] (by decide +kernel) (by decide +kernel)
set_option maxRecDepth 20000 in
theorem gX6_mark_X0_toleranceOf : GoodIn wsX6_mark (wsV RX6 171 RX0 yX0_toleranceOf wsX0_toleranceOf) := goodIn_app (goodIn_of _ (by decide +kernel)) ggX6_mark_X0_toleranceOf
set_option maxRecDepth 20000 in
theorem ggX6_mark_X1_countOf : GoodIn wsX6_mark wsX1_countOf := goodIn_r _ [33, 34, 35, 60, 61] (by decide +kernel) (by decide +kernel)
set_option maxRecDepth 20000 in
theorem gX6_mark_X1_countOf : GoodIn wsX6_mark (wsV RX6 174 RX1 yX1_countOf wsX1_countOf) := goodIn_app (goodIn_of _ (by decide +kernel)) ggX6_mark_X1_countOf
set_option maxRecDepth 20000 in
theorem ggX6_mark_X1_countOverBulb : GoodIn wsX6_mark wsX1_countOverBulb := goodIn_r _ [39, 34, 35, 40, 41, 42, 32, 43, 44, 45, 46, 47, 9, 10, 11, 60, 61] (by decide +kernel) (by decide +kernel)
set_option maxRecDepth 20000 in
theorem gX6_mark_X1_countOverBulb : GoodIn wsX6_mark (wsV RX6 184 RX1 yX1_countOverBulb wsX1_countOverBulb) := goodIn_app (goodIn_of _ (by decide +kernel)) ggX6_mark_X1_countOverBulb
theorem dX6_mark_0 : decode cX6_mark 0 = .ok (.aload_n 0, 1) := by decide +kernel
theorem dX6_mark_1 : decode cX6_mark 1 = .ok (.getfield 26, 3) := by decide +kernel
theorem dX6_mark_4 : decode cX6_mark 4 = .ok (.iload_n 1, 1) := by decide +kernel
theorem dX6_mark_5 : decode cX6_mark 5 = .ok (.invokevirtual 165, 3) := by decide +kernel
theorem dX6_mark_8 : decode cX6_mark 8 = .ok (.ifCond .eq 12, 3) := by decide +kernel
theorem dX6_mark_11 : decode cX6_mark 11 = .ok (.iload_n 2, 1) := by decide +kernel
theorem dX6_mark_12 : decode cX6_mark 12 = .ok (.iconst 1, 1) := by decide +kernel
theorem dX6_mark_13 : decode cX6_mark 13 = .ok (.iconst 3, 1) := by decide +kernel
theorem dX6_mark_14 : decode cX6_mark 14 = .ok (.invokestatic 113, 3) := by decide +kernel
theorem dX6_mark_17 : decode cX6_mark 17 = .ok (.ifCond .ne 5, 3) := by decide +kernel
theorem dX6_mark_20 : decode cX6_mark 20 = .ok (.iconst (-1), 1) := by decide +kernel
theorem dX6_mark_21 : decode cX6_mark 21 = .ok (.ireturn, 1) := by decide +kernel
theorem dX6_mark_22 : decode cX6_mark 22 = .ok (.aload_n 0, 1) := by decide +kernel
theorem dX6_mark_23 : decode cX6_mark 23 = .ok (.getfield 26, 3) := by decide +kernel
theorem dX6_mark_26 : decode cX6_mark 26 = .ok (.iload_n 1, 1) := by decide +kernel
theorem dX6_mark_27 : decode cX6_mark 27 = .ok (.iload_n 2, 1) := by decide +kernel
theorem dX6_mark_28 : decode cX6_mark 28 = .ok (.invokevirtual 181, 3) := by decide +kernel
theorem dX6_mark_31 : decode cX6_mark 31 = .ok (.ifCond .ne 9, 3) := by decide +kernel
theorem dX6_mark_34 : decode cX6_mark 34 = .ok (.aload_n 0, 1) := by decide +kernel
theorem dX6_mark_35 : decode cX6_mark 35 = .ok (.iconst 3, 1) := by decide +kernel
theorem dX6_mark_36 : decode cX6_mark 36 = .ok (.invokevirtual 67, 3) := by decide +kernel
theorem dX6_mark_39 : decode cX6_mark 39 = .ok (.ireturn, 1) := by decide +kernel
theorem dX6_mark_40 : decode cX6_mark 40 = .ok (.iload_n 2, 1) := by decide +kernel
theorem dX6_mark_41 : decode cX6_mark 41 = .ok (.iconst 1, 1) := by decide +kernel
theorem dX6_mark_42 : decode cX6_mark 42 = .ok (.if_icmp .ne 12, 3) := by decide +kernel
theorem dX6_mark_45 : decode cX6_mark 45 = .ok (.aload_n 0, 1) := by decide +kernel
theorem dX6_mark_46 : decode cX6_mark 46 = .ok (.getfield 26, 3) := by decide +kernel
theorem dX6_mark_49 : decode cX6_mark 49 = .ok (.iload_n 1, 1) := by decide +kernel
theorem dX6_mark_50 : decode cX6_mark 50 = .ok (.invokevirtual 171, 3) := by decide +kernel
theorem dX6_mark_53 : decode cX6_mark 53 = .ok (.ireturn, 1) := by decide +kernel
theorem dX6_mark_54 : decode cX6_mark 54 = .ok (.iload_n 2, 1) := by decide +kernel
theorem dX6_mark_55 : decode cX6_mark 55 = .ok (.iconst 2, 1) := by decide +kernel
theorem dX6_mark_56 : decode cX6_mark 56 = .ok (.if_icmp .ne 16, 3) := by decide +kernel
theorem dX6_mark_59 : decode cX6_mark 59 = .ok (.aload_n 0, 1) := by decide +kernel
theorem dX6_mark_60 : decode cX6_mark 60 = .ok (.getfield 33, 3) := by decide +kernel
theorem dX6_mark_63 : decode cX6_mark 63 = .ok (.iconst 1, 1) := by decide +kernel
theorem dX6_mark_64 : decode cX6_mark 64 = .ok (.iload_n 1, 1) := by decide +kernel
theorem dX6_mark_65 : decode cX6_mark 65 = .ok (.iconst 1, 1) := by decide +kernel
theorem dX6_mark_66 : decode cX6_mark 66 = .ok (.invokevirtual 174, 3) := by decide +kernel
theorem dX6_mark_69 : decode cX6_mark 69 = .ok (.goto 11, 3) := by decide +kernel
theorem dX6_mark_72 : decode cX6_mark 72 = .ok (.aload_n 0, 1) := by decide +kernel
theorem dX6_mark_73 : decode cX6_mark 73 = .ok (.getfield 33, 3) := by decide +kernel
theorem dX6_mark_76 : decode cX6_mark 76 = .ok (.iload_n 1, 1) := by decide +kernel
theorem dX6_mark_77 : decode cX6_mark 77 = .ok (.invokevirtual 184, 3) := by decide +kernel
theorem dX6_mark_80 : decode cX6_mark 80 = .ok (.ireturn, 1) := by decide +kernel
set_option maxRecDepth 20000 in
theorem ggX6_stem_X0_has : GoodIn wsX6_stem wsX0_has := goodIn_r _ [10, 11, 12, 13, 14, 52, 53, 54] (by decide +kernel) (by decide +kernel)
set_option maxRecDepth 20000 in
theorem gX6_stem_X0_has : GoodIn wsX6_stem (wsV RX6 165 RX0 yX0_has wsX0_has) := goodIn_app (goodIn_of _ (by decide +kernel)) ggX6_stem_X0_has
set_option maxRecDepth 20000 in
theorem ggX6_stem_X6_isWithin : GoodIn wsX6_stem wsX6_isWithin := goodIn_r _ [17, 18, 12, 13, 14] (by decide +kernel) (by decide +kernel)
set_option maxRecDepth 20000 in
theorem gX6_stem_X6_isWithin : GoodIn wsX6_stem (va_wsS RX6 76 yX6_isWithin wsX6_isWithin) := goodIn_app (goodIn_of _ (by decide +kernel)) ggX6_stem_X6_isWithin
set_option maxRecDepth 20000 in
theorem ggX6_stem_X6_isBetween : GoodIn wsX6_stem wsX6_isBetween := goodIn_r _ [14] (by decide +kernel) (by decide +kernel)
set_option maxRecDepth 20000 in
theorem gX6_stem_X6_isBetween : GoodIn wsX6_stem (va_wsS RX6 113 yX6_isBetween wsX6_isBetween) := goodIn_app (goodIn_of _ (by decide +kernel)) ggX6_stem_X6_isBetween
set_option maxRecDepth 20000 in
theorem ggX6_stem_X0_isOf : GoodIn wsX6_stem wsX0_isOf := goodIn_r _ [22, 23, 52, 53, 54] (by decide +kernel) (by decide +kernel)
set_option maxRecDepth 20000 in
theorem gX6_stem_X0_isOf : GoodIn wsX6_stem (wsV RX6 181 RX0 yX0_isOf wsX0_isOf) := goodIn_app (goodIn_of _ (by decide +kernel)) ggX6_stem_X0_isOf
set_option maxRecDepth 20000 in
theorem ggX6_stem_X6_refuse : GoodIn wsX6_stem wsX6_refuse := goodIn_r _ [27, 28, 29, 18, 12, 13, 14, 43, 44, 45, 46, 47, 48, 49, 50, 51] (by decide +kernel) (by decide +kernel)
set_option maxRecDepth 20000 in
theorem gX6_stem_X6_refuse : GoodIn wsX6_stem (wsV RX6 67 RX6 yX6_refuse wsX6_refuse) := goodIn_app (goodIn_of _ (by decide +kernel)) ggX6_stem_X6_refuse
set_option maxRecDepth 20000 in
theorem ggX6_stem_X2_tell : GoodIn wsX6_stem wsX2_tell := goodIn_r _ [34, 35, 36, 37, 13, 38, 39, 40, 41, 42, 55, 56] (by decide +kernel) (by decide +kernel)
set_option maxRecDepth 20000 in
theorem gX6_stem_X2_tell : GoodIn wsX6_stem (wsV RX6 122 RX2 yX2_tell wsX2_tell) := goodIn_app (goodIn_of _ (by decide +kernel)) ggX6_stem_X2_tell
theorem dX6_stem_0 : decode cX6_stem 0 = .ok (.aload_n 0, 1) := by decide +kernel
theorem dX6_stem_1 : decode cX6_stem 1 = .ok (.getfield 26, 3) := by decide +kernel
theorem dX6_stem_4 : decode cX6_stem 4 = .ok (.iload_n 1, 1) := by decide +kernel
theorem dX6_stem_5 : decode cX6_stem 5 = .ok (.invokevirtual 165, 3) := by decide +kernel
theorem dX6_stem_8 : decode cX6_stem 8 = .ok (.ifCond .eq 43, 3) := by decide +kernel
theorem dX6_stem_11 : decode cX6_stem 11 = .ok (.iload_n 2, 1) := by decide +kernel
theorem dX6_stem_12 : decode cX6_stem 12 = .ok (.ldc 75, 2) := by decide +kernel
theorem dX6_stem_14 : decode cX6_stem 14 = .ok (.invokestatic 76, 3) := by decide +kernel
theorem dX6_stem_17 : decode cX6_stem 17 = .ok (.ifCond .eq 34, 3) := by decide +kernel
theorem dX6_stem_20 : decode cX6_stem 20 = .ok (.iload_n 3, 1) := by decide +kernel
theorem dX6_stem_21 : decode cX6_stem 21 = .ok (.iconst 0, 1) := by decide +kernel
theorem dX6_stem_22 : decode cX6_stem 22 = .ok (.sipush 1000, 3) := by decide +kernel
theorem dX6_stem_25 : decode cX6_stem 25 = .ok (.invokestatic 113, 3) := by decide +kernel
theorem dX6_stem_28 : decode cX6_stem 28 = .ok (.ifCond .eq 23, 3) := by decide +kernel
theorem dX6_stem_31 : decode cX6_stem 31 = .ok (.iload 4, 2) := by decide +kernel
theorem dX6_stem_33 : decode cX6_stem 33 = .ok (.ldc 75, 2) := by decide +kernel
theorem dX6_stem_35 : decode cX6_stem 35 = .ok (.invokestatic 76, 3) := by decide +kernel
theorem dX6_stem_38 : decode cX6_stem 38 = .ok (.ifCond .eq 13, 3) := by decide +kernel
theorem dX6_stem_41 : decode cX6_stem 41 = .ok (.iload 5, 2) := by decide +kernel
theorem dX6_stem_43 : decode cX6_stem 43 = .ok (.ldc 75, 2) := by decide +kernel
theorem dX6_stem_45 : decode cX6_stem 45 = .ok (.invokestatic 76, 3) := by decide +kernel
theorem dX6_stem_48 : decode cX6_stem 48 = .ok (.ifCond .ne 5, 3) := by decide +kernel
theorem dX6_stem_51 : decode cX6_stem 51 = .ok (.iconst (-1), 1) := by decide +kernel
theorem dX6_stem_52 : decode cX6_stem 52 = .ok (.ireturn, 1) := by decide +kernel
theorem dX6_stem_53 : decode cX6_stem 53 = .ok (.aload_n 0, 1) := by decide +kernel
theorem dX6_stem_54 : decode cX6_stem 54 = .ok (.getfield 26, 3) := by decide +kernel
theorem dX6_stem_57 : decode cX6_stem 57 = .ok (.iload_n 1, 1) := by decide +kernel
theorem dX6_stem_58 : decode cX6_stem 58 = .ok (.iconst 1, 1) := by decide +kernel
theorem dX6_stem_59 : decode cX6_stem 59 = .ok (.invokevirtual 181, 3) := by decide +kernel
theorem dX6_stem_62 : decode cX6_stem 62 = .ok (.ifCond .ne 9, 3) := by decide +kernel
theorem dX6_stem_65 : decode cX6_stem 65 = .ok (.aload_n 0, 1) := by decide +kernel
theorem dX6_stem_66 : decode cX6_stem 66 = .ok (.iconst 3, 1) := by decide +kernel
theorem dX6_stem_67 : decode cX6_stem 67 = .ok (.invokevirtual 67, 3) := by decide +kernel
theorem dX6_stem_70 : decode cX6_stem 70 = .ok (.ireturn, 1) := by decide +kernel
theorem dX6_stem_71 : decode cX6_stem 71 = .ok (.aload_n 0, 1) := by decide +kernel
theorem dX6_stem_72 : decode cX6_stem 72 = .ok (.getfield 47, 3) := by decide +kernel
theorem dX6_stem_75 : decode cX6_stem 75 = .ok (.iload_n 2, 1) := by decide +kernel
theorem dX6_stem_76 : decode cX6_stem 76 = .ok (.i2l, 1) := by decide +kernel
theorem dX6_stem_77 : decode cX6_stem 77 = .ok (.ldc2_w 187, 3) := by decide +kernel
theorem dX6_stem_80 : decode cX6_stem 80 = .ok (.lmul, 1) := by decide +kernel
theorem dX6_stem_81 : decode cX6_stem 81 = .ok (.ldc2_w 189, 3) := by decide +kernel
theorem dX6_stem_84 : decode cX6_stem 84 = .ok (.iload_n 3, 1) := by decide +kernel
theorem dX6_stem_85 : decode cX6_stem 85 = .ok (.i2l, 1) := by decide +kernel
theorem dX6_stem_86 : decode cX6_stem 86 = .ok (.lmul, 1) := by decide +kernel
theorem dX6_stem_87 : decode cX6_stem 87 = .ok (.iload 4, 2) := by decide +kernel
theorem dX6_stem_89 : decode cX6_stem 89 = .ok (.iload 5, 2) := by decide +kernel
theorem dX6_stem_91 : decode cX6_stem 91 = .ok (.isub, 1) := by decide +kernel
theorem dX6_stem_92 : decode cX6_stem 92 = .ok (.i2l, 1) := by decide +kernel
theorem dX6_stem_93 : decode cX6_stem 93 = .ok (.lmul, 1) := by decide +kernel
theorem dX6_stem_94 : decode cX6_stem 94 = .ok (.ladd, 1) := by decide +kernel
theorem dX6_stem_95 : decode cX6_stem 95 = .ok (.ldc2_w 187, 3) := by decide +kernel
theorem dX6_stem_98 : decode cX6_stem 98 = .ok (.invokevirtual 122, 3) := by decide +kernel
theorem dX6_stem_101 : decode cX6_stem 101 = .ok (.iconst 1, 1) := by decide +kernel
theorem dX6_stem_102 : decode cX6_stem 102 = .ok (.ireturn, 1) := by decide +kernel
set_option maxRecDepth 20000 in
theorem ggX6_currents_X0_has : GoodIn wsX6_currents wsX0_has := goodIn_r _ [8, 9, 10, 11, 12, 50, 51, 52] (by decide +kernel) (by decide +kernel)
set_option maxRecDepth 20000 in
theorem gX6_currents_X0_has : GoodIn wsX6_currents (wsV RX6 165 RX0 yX0_has wsX0_has) := goodIn_app (goodIn_of _ (by decide +kernel)) ggX6_currents_X0_has
set_option maxRecDepth 20000 in
theorem ggX6_currents_X6_isWithin : GoodIn wsX6_currents wsX6_isWithin := goodIn_r _ [15, 16, 10, 11, 12] (by decide +kernel) (by decide +kernel)
set_option maxRecDepth 20000 in
theorem gX6_currents_X6_isWithin : GoodIn wsX6_currents (va_wsS RX6 76 yX6_isWithin wsX6_isWithin) := goodIn_app (goodIn_of _ (by decide +kernel)) ggX6_currents_X6_isWithin
set_option maxRecDepth 20000 in
theorem ggX6_currents_X6_isBetween : GoodIn wsX6_currents wsX6_isBetween := goodIn_r _ [12] (by decide +kernel) (by decide +kernel)
set_option maxRecDepth 20000 in
theorem gX6_currents_X6_isBetween : GoodIn wsX6_currents (va_wsS RX6 113 yX6_isBetween wsX6_isBetween) := goodIn_app (goodIn_of _ (by decide +kernel)) ggX6_currents_X6_isBetween
set_option maxRecDepth 20000 in
theorem ggX6_currents_X0_isOf : GoodIn wsX6_currents wsX0_isOf := goodIn_r _ [20, 21, 50, 51, 52] (by decide +kernel) (by decide +kernel)
set_option maxRecDepth 20000 in
theorem gX6_currents_X0_isOf : GoodIn wsX6_currents (wsV RX6 181 RX0 yX0_isOf wsX0_isOf) := goodIn_app (goodIn_of _ (by decide +kernel)) ggX6_currents_X0_isOf
set_option maxRecDepth 20000 in
theorem ggX6_currents_X6_refuse : GoodIn wsX6_currents wsX6_refuse := goodIn_r _ [25, 26, 27, 16, 10, 11, 12, 41, 42, 43, 44, 45, 46, 47, 48, 49] (by decide +kernel) (by decide +kernel)
set_option maxRecDepth 20000 in
theorem gX6_currents_X6_refuse : GoodIn wsX6_currents (wsV RX6 67 RX6 yX6_refuse wsX6_refuse) := goodIn_app (goodIn_of _ (by decide +kernel)) ggX6_currents_X6_refuse
set_option maxRecDepth 20000 in
theorem ggX6_currents_X2_tell : GoodIn wsX6_currents wsX2_tell := goodIn_r _ [32, 33, 34, 35, 11, 36, 37, 38, 39, 40, 53, 54] (by decide +kernel) (by decide +kernel)
set_option maxRecDepth 20000 in
theorem gX6_currents_X2_tell : GoodIn wsX6_currents (wsV RX6 122 RX2 yX2_tell wsX2_tell) := goodIn_app (goodIn_of _ (by decide +kernel)) ggX6_currents_X2_tell
theorem dX6_currents_0 : decode cX6_currents 0 = .ok (.aload_n 0, 1) := by decide +kernel
theorem dX6_currents_1 : decode cX6_currents 1 = .ok (.getfield 26, 3) := by decide +kernel
theorem dX6_currents_4 : decode cX6_currents 4 = .ok (.iload_n 1, 1) := by decide +kernel
theorem dX6_currents_5 : decode cX6_currents 5 = .ok (.invokevirtual 165, 3) := by decide +kernel
theorem dX6_currents_8 : decode cX6_currents 8 = .ok (.ifCond .eq 43, 3) := by decide +kernel
theorem dX6_currents_11 : decode cX6_currents 11 = .ok (.iload_n 2, 1) := by decide +kernel
theorem dX6_currents_12 : decode cX6_currents 12 = .ok (.ldc 75, 2) := by decide +kernel
theorem dX6_currents_14 : decode cX6_currents 14 = .ok (.invokestatic 76, 3) := by decide +kernel
theorem dX6_currents_17 : decode cX6_currents 17 = .ok (.ifCond .eq 34, 3) := by decide +kernel
theorem dX6_currents_20 : decode cX6_currents 20 = .ok (.iload 4, 2) := by decide +kernel
theorem dX6_currents_22 : decode cX6_currents 22 = .ok (.ldc 75, 2) := by decide +kernel
theorem dX6_currents_24 : decode cX6_currents 24 = .ok (.invokestatic 76, 3) := by decide +kernel
theorem dX6_currents_27 : decode cX6_currents 27 = .ok (.ifCond .eq 24, 3) := by decide +kernel
theorem dX6_currents_30 : decode cX6_currents 30 = .ok (.iload_n 3, 1) := by decide +kernel
theorem dX6_currents_31 : decode cX6_currents 31 = .ok (.iconst 1, 1) := by decide +kernel
theorem dX6_currents_32 : decode cX6_currents 32 = .ok (.bipush 100, 2) := by decide +kernel
theorem dX6_currents_34 : decode cX6_currents 34 = .ok (.invokestatic 113, 3) := by decide +kernel
theorem dX6_currents_37 : decode cX6_currents 37 = .ok (.ifCond .eq 14, 3) := by decide +kernel
theorem dX6_currents_40 : decode cX6_currents 40 = .ok (.iload 5, 2) := by decide +kernel
theorem dX6_currents_42 : decode cX6_currents 42 = .ok (.iconst 1, 1) := by decide +kernel
theorem dX6_currents_43 : decode cX6_currents 43 = .ok (.bipush 100, 2) := by decide +kernel
theorem dX6_currents_45 : decode cX6_currents 45 = .ok (.invokestatic 113, 3) := by decide +kernel
theorem dX6_currents_48 : decode cX6_currents 48 = .ok (.ifCond .ne 5, 3) := by decide +kernel
theorem dX6_currents_51 : decode cX6_currents 51 = .ok (.iconst (-1), 1) := by decide +kernel
theorem dX6_currents_52 : decode cX6_currents 52 = .ok (.ireturn, 1) := by decide +kernel
theorem dX6_currents_53 : decode cX6_currents 53 = .ok (.aload_n 0, 1) := by decide +kernel
theorem dX6_currents_54 : decode cX6_currents 54 = .ok (.getfield 26, 3) := by decide +kernel
theorem dX6_currents_57 : decode cX6_currents 57 = .ok (.iload_n 1, 1) := by decide +kernel
theorem dX6_currents_58 : decode cX6_currents 58 = .ok (.iconst 2, 1) := by decide +kernel
theorem dX6_currents_59 : decode cX6_currents 59 = .ok (.invokevirtual 181, 3) := by decide +kernel
theorem dX6_currents_62 : decode cX6_currents 62 = .ok (.ifCond .ne 9, 3) := by decide +kernel
theorem dX6_currents_65 : decode cX6_currents 65 = .ok (.aload_n 0, 1) := by decide +kernel
theorem dX6_currents_66 : decode cX6_currents 66 = .ok (.iconst 3, 1) := by decide +kernel
theorem dX6_currents_67 : decode cX6_currents 67 = .ok (.invokevirtual 67, 3) := by decide +kernel
theorem dX6_currents_70 : decode cX6_currents 70 = .ok (.ireturn, 1) := by decide +kernel
theorem dX6_currents_71 : decode cX6_currents 71 = .ok (.iload_n 3, 1) := by decide +kernel
theorem dX6_currents_72 : decode cX6_currents 72 = .ok (.iload 5, 2) := by decide +kernel
theorem dX6_currents_74 : decode cX6_currents 74 = .ok (.if_icmp .ne 9, 3) := by decide +kernel
theorem dX6_currents_77 : decode cX6_currents 77 = .ok (.aload_n 0, 1) := by decide +kernel
theorem dX6_currents_78 : decode cX6_currents 78 = .ok (.iconst 4, 1) := by decide +kernel
theorem dX6_currents_79 : decode cX6_currents 79 = .ok (.invokevirtual 67, 3) := by decide +kernel
theorem dX6_currents_82 : decode cX6_currents 82 = .ok (.ireturn, 1) := by decide +kernel
theorem dX6_currents_83 : decode cX6_currents 83 = .ok (.iload_n 3, 1) := by decide +kernel
theorem dX6_currents_84 : decode cX6_currents 84 = .ok (.i2l, 1) := by decide +kernel
theorem dX6_currents_85 : decode cX6_currents 85 = .ok (.iload_n 3, 1) := by decide +kernel
theorem dX6_currents_86 : decode cX6_currents 86 = .ok (.i2l, 1) := by decide +kernel
theorem dX6_currents_87 : decode cX6_currents 87 = .ok (.lmul, 1) := by decide +kernel
theorem dX6_currents_88 : decode cX6_currents 88 = .ok (.lstore 6, 2) := by decide +kernel
theorem dX6_currents_90 : decode cX6_currents 90 = .ok (.iload 5, 2) := by decide +kernel
theorem dX6_currents_92 : decode cX6_currents 92 = .ok (.i2l, 1) := by decide +kernel
theorem dX6_currents_93 : decode cX6_currents 93 = .ok (.iload 5, 2) := by decide +kernel
theorem dX6_currents_95 : decode cX6_currents 95 = .ok (.i2l, 1) := by decide +kernel
theorem dX6_currents_96 : decode cX6_currents 96 = .ok (.lmul, 1) := by decide +kernel
theorem dX6_currents_97 : decode cX6_currents 97 = .ok (.lstore 8, 2) := by decide +kernel
theorem dX6_currents_99 : decode cX6_currents 99 = .ok (.aload_n 0, 1) := by decide +kernel
theorem dX6_currents_100 : decode cX6_currents 100 = .ok (.getfield 47, 3) := by decide +kernel
theorem dX6_currents_103 : decode cX6_currents 103 = .ok (.iload_n 2, 1) := by decide +kernel
theorem dX6_currents_104 : decode cX6_currents 104 = .ok (.i2l, 1) := by decide +kernel
theorem dX6_currents_105 : decode cX6_currents 105 = .ok (.lload 8, 2) := by decide +kernel
theorem dX6_currents_107 : decode cX6_currents 107 = .ok (.lmul, 1) := by decide +kernel
theorem dX6_currents_108 : decode cX6_currents 108 = .ok (.iload 4, 2) := by decide +kernel
theorem dX6_currents_110 : decode cX6_currents 110 = .ok (.i2l, 1) := by decide +kernel
theorem dX6_currents_111 : decode cX6_currents 111 = .ok (.lload 6, 2) := by decide +kernel
theorem dX6_currents_113 : decode cX6_currents 113 = .ok (.lmul, 1) := by decide +kernel
theorem dX6_currents_114 : decode cX6_currents 114 = .ok (.lsub, 1) := by decide +kernel
theorem dX6_currents_115 : decode cX6_currents 115 = .ok (.lload 8, 2) := by decide +kernel
theorem dX6_currents_117 : decode cX6_currents 117 = .ok (.lload 6, 2) := by decide +kernel
theorem dX6_currents_119 : decode cX6_currents 119 = .ok (.lsub, 1) := by decide +kernel
theorem dX6_currents_120 : decode cX6_currents 120 = .ok (.invokevirtual 122, 3) := by decide +kernel
theorem dX6_currents_123 : decode cX6_currents 123 = .ok (.iconst 1, 1) := by decide +kernel
theorem dX6_currents_124 : decode cX6_currents 124 = .ok (.ireturn, 1) := by decide +kernel
set_option maxRecDepth 20000 in
theorem ggX6_compare_X6_isRow : GoodIn wsX6_compare wsX6_isRow := goodIn_r _ [7, 8, 9, 6, 10] (by decide +kernel) (by decide +kernel)
set_option maxRecDepth 20000 in
theorem gX6_compare_X6_isRow : GoodIn wsX6_compare (va_wsS RX6 63 yX6_isRow wsX6_isRow) := goodIn_app (goodIn_of _ (by decide +kernel)) ggX6_compare_X6_isRow
set_option maxRecDepth 20000 in
theorem ggX6_compare_X4_isMissing : GoodIn wsX6_compare wsX4_isMissing := goodIn_r _ [15, 16, 58, 59] (by decide +kernel) (by decide +kernel)
set_option maxRecDepth 20000 in
theorem gX6_compare_X4_isMissing : GoodIn wsX6_compare (wsV RX6 80 RX4 yX4_isMissing wsX4_isMissing) := goodIn_app (goodIn_of _ (by decide +kernel)) ggX6_compare_X4_isMissing
set_option maxRecDepth 20000 in
theorem ggX6_compare_X6_refuse : GoodIn wsX6_compare wsX6_refuse := goodIn_r _ [20, 21, 22, 8, 9, 6, 10, 49, 50, 51, 52, 53, 54, 55, 56, 57] (by decide +kernel) (by decide +kernel)
set_option maxRecDepth 20000 in
theorem gX6_compare_X6_refuse : GoodIn wsX6_compare (wsV RX6 67 RX6 yX6_refuse wsX6_refuse) := goodIn_app (goodIn_of _ (by decide +kernel)) ggX6_compare_X6_refuse
set_option maxRecDepth 20000 in
theorem ggX6_compare_X4_sizeOf : GoodIn wsX6_compare wsX4_sizeOf := goodIn_r _ [26, 16, 58, 59] (by decide +kernel) (by decide +kernel)
set_option maxRecDepth 20000 in
theorem gX6_compare_X4_sizeOf : GoodIn wsX6_compare (wsV RX6 106 RX4 yX4_sizeOf wsX4_sizeOf) := goodIn_app (goodIn_of _ (by decide +kernel)) ggX6_compare_X4_sizeOf
set_option maxRecDepth 20000 in
theorem ggX6_compare_X4_heldCount : GoodIn wsX6_compare wsX4_heldCount := goodIn_r _ [30, 16, 31, 58, 59] (by decide +kernel) (by decide +kernel)
set_option maxRecDepth 20000 in
theorem gX6_compare_X4_heldCount : GoodIn wsX6_compare (wsV RX6 103 RX4 yX4_heldCount wsX4_heldCount) := goodIn_app (goodIn_of _ (by decide +kernel)) ggX6_compare_X4_heldCount
set_option maxRecDepth 20000 in
theorem ggX6_compare_X6_isBetween : GoodIn wsX6_compare wsX6_isBetween := goodIn_r _ [10] (by decide +kernel) (by decide +kernel)
set_option maxRecDepth 20000 in
theorem gX6_compare_X6_isBetween : GoodIn wsX6_compare (va_wsS RX6 113 yX6_isBetween wsX6_isBetween) := goodIn_app (goodIn_of _ (by decide +kernel)) ggX6_compare_X6_isBetween
set_option maxRecDepth 20000 in
theorem ggX6_compare_X4_mirrorSum : GoodIn wsX6_compare wsX4_mirrorSum := goodIn_r _ [35, 31, 16, 58, 59] (by decide +kernel) (by decide +kernel)
set_option maxRecDepth 20000 in
theorem gX6_compare_X4_mirrorSum : GoodIn wsX6_compare (wsV RX6 191 RX4 yX4_mirrorSum wsX4_mirrorSum) := goodIn_app (goodIn_of _ (by decide +kernel)) ggX6_compare_X4_mirrorSum
set_option maxRecDepth 20000 in
theorem ggX6_compare_X2_tell : GoodIn wsX6_compare wsX2_tell := goodIn_r _ [40, 41, 42, 43, 6, 44, 45, 46, 47, 48, 60, 61] (by decide +kernel) (by decide +kernel)
set_option maxRecDepth 20000 in
theorem gX6_compare_X2_tell : GoodIn wsX6_compare (wsV RX6 122 RX2 yX2_tell wsX2_tell) := goodIn_app (goodIn_of _ (by decide +kernel)) ggX6_compare_X2_tell
theorem dX6_compare_0 : decode cX6_compare 0 = .ok (.iload_n 1, 1) := by decide +kernel
theorem dX6_compare_1 : decode cX6_compare 1 = .ok (.invokestatic 63, 3) := by decide +kernel
theorem dX6_compare_4 : decode cX6_compare 4 = .ok (.ifCond .ne 5, 3) := by decide +kernel
theorem dX6_compare_7 : decode cX6_compare 7 = .ok (.iconst (-1), 1) := by decide +kernel
theorem dX6_compare_8 : decode cX6_compare 8 = .ok (.ireturn, 1) := by decide +kernel
theorem dX6_compare_9 : decode cX6_compare 9 = .ok (.aload_n 0, 1) := by decide +kernel
theorem dX6_compare_10 : decode cX6_compare 10 = .ok (.getfield 10, 3) := by decide +kernel
theorem dX6_compare_13 : decode cX6_compare 13 = .ok (.iload_n 1, 1) := by decide +kernel
theorem dX6_compare_14 : decode cX6_compare 14 = .ok (.invokevirtual 80, 3) := by decide +kernel
theorem dX6_compare_17 : decode cX6_compare 17 = .ok (.ifCond .eq 9, 3) := by decide +kernel
theorem dX6_compare_20 : decode cX6_compare 20 = .ok (.aload_n 0, 1) := by decide +kernel
theorem dX6_compare_21 : decode cX6_compare 21 = .ok (.iconst 1, 1) := by decide +kernel
theorem dX6_compare_22 : decode cX6_compare 22 = .ok (.invokevirtual 67, 3) := by decide +kernel
theorem dX6_compare_25 : decode cX6_compare 25 = .ok (.ireturn, 1) := by decide +kernel
theorem dX6_compare_26 : decode cX6_compare 26 = .ok (.aload_n 0, 1) := by decide +kernel
theorem dX6_compare_27 : decode cX6_compare 27 = .ok (.getfield 10, 3) := by decide +kernel
theorem dX6_compare_30 : decode cX6_compare 30 = .ok (.iload_n 1, 1) := by decide +kernel
theorem dX6_compare_31 : decode cX6_compare 31 = .ok (.invokevirtual 106, 3) := by decide +kernel
theorem dX6_compare_34 : decode cX6_compare 34 = .ok (.istore_n 3, 1) := by decide +kernel
theorem dX6_compare_35 : decode cX6_compare 35 = .ok (.iload_n 3, 1) := by decide +kernel
theorem dX6_compare_36 : decode cX6_compare 36 = .ok (.iconst 4, 1) := by decide +kernel
theorem dX6_compare_37 : decode cX6_compare 37 = .ok (.if_icmp .lt 21, 3) := by decide +kernel
theorem dX6_compare_40 : decode cX6_compare 40 = .ok (.iload_n 3, 1) := by decide +kernel
theorem dX6_compare_41 : decode cX6_compare 41 = .ok (.iconst 2, 1) := by decide +kernel
theorem dX6_compare_42 : decode cX6_compare 42 = .ok (.irem, 1) := by decide +kernel
theorem dX6_compare_43 : decode cX6_compare 43 = .ok (.ifCond .ne 15, 3) := by decide +kernel
theorem dX6_compare_46 : decode cX6_compare 46 = .ok (.aload_n 0, 1) := by decide +kernel
theorem dX6_compare_47 : decode cX6_compare 47 = .ok (.getfield 10, 3) := by decide +kernel
theorem dX6_compare_50 : decode cX6_compare 50 = .ok (.iload_n 1, 1) := by decide +kernel
theorem dX6_compare_51 : decode cX6_compare 51 = .ok (.invokevirtual 103, 3) := by decide +kernel
theorem dX6_compare_54 : decode cX6_compare 54 = .ok (.iload_n 3, 1) := by decide +kernel
theorem dX6_compare_55 : decode cX6_compare 55 = .ok (.if_icmp .eq 9, 3) := by decide +kernel
theorem dX6_compare_58 : decode cX6_compare 58 = .ok (.aload_n 0, 1) := by decide +kernel
theorem dX6_compare_59 : decode cX6_compare 59 = .ok (.iconst 5, 1) := by decide +kernel
theorem dX6_compare_60 : decode cX6_compare 60 = .ok (.invokevirtual 67, 3) := by decide +kernel
theorem dX6_compare_63 : decode cX6_compare 63 = .ok (.ireturn, 1) := by decide +kernel
theorem dX6_compare_64 : decode cX6_compare 64 = .ok (.iload_n 3, 1) := by decide +kernel
theorem dX6_compare_65 : decode cX6_compare 65 = .ok (.iconst 2, 1) := by decide +kernel
theorem dX6_compare_66 : decode cX6_compare 66 = .ok (.idiv, 1) := by decide +kernel
theorem dX6_compare_67 : decode cX6_compare 67 = .ok (.iconst 1, 1) := by decide +kernel
theorem dX6_compare_68 : decode cX6_compare 68 = .ok (.isub, 1) := by decide +kernel
theorem dX6_compare_69 : decode cX6_compare 69 = .ok (.istore 4, 2) := by decide +kernel
theorem dX6_compare_71 : decode cX6_compare 71 = .ok (.iload_n 2, 1) := by decide +kernel
theorem dX6_compare_72 : decode cX6_compare 72 = .ok (.iconst 0, 1) := by decide +kernel
theorem dX6_compare_73 : decode cX6_compare 73 = .ok (.iload 4, 2) := by decide +kernel
theorem dX6_compare_75 : decode cX6_compare 75 = .ok (.iconst 1, 1) := by decide +kernel
theorem dX6_compare_76 : decode cX6_compare 76 = .ok (.isub, 1) := by decide +kernel
theorem dX6_compare_77 : decode cX6_compare 77 = .ok (.invokestatic 113, 3) := by decide +kernel
theorem dX6_compare_80 : decode cX6_compare 80 = .ok (.ifCond .ne 6, 3) := by decide +kernel
theorem dX6_compare_83 : decode cX6_compare 83 = .ok (.bipush (-9), 2) := by decide +kernel
theorem dX6_compare_85 : decode cX6_compare 85 = .ok (.ireturn, 1) := by decide +kernel
theorem dX6_compare_86 : decode cX6_compare 86 = .ok (.aload_n 0, 1) := by decide +kernel
theorem dX6_compare_87 : decode cX6_compare 87 = .ok (.getfield 47, 3) := by decide +kernel
theorem dX6_compare_90 : decode cX6_compare 90 = .ok (.aload_n 0, 1) := by decide +kernel
theorem dX6_compare_91 : decode cX6_compare 91 = .ok (.getfield 10, 3) := by decide +kernel
theorem dX6_compare_94 : decode cX6_compare 94 = .ok (.iload_n 1, 1) := by decide +kernel
theorem dX6_compare_95 : decode cX6_compare 95 = .ok (.iload_n 2, 1) := by decide +kernel
theorem dX6_compare_96 : decode cX6_compare 96 = .ok (.iconst 1, 1) := by decide +kernel
theorem dX6_compare_97 : decode cX6_compare 97 = .ok (.iadd, 1) := by decide +kernel
theorem dX6_compare_98 : decode cX6_compare 98 = .ok (.invokevirtual 191, 3) := by decide +kernel
theorem dX6_compare_101 : decode cX6_compare 101 = .ok (.aload_n 0, 1) := by decide +kernel
theorem dX6_compare_102 : decode cX6_compare 102 = .ok (.getfield 10, 3) := by decide +kernel
theorem dX6_compare_105 : decode cX6_compare 105 = .ok (.iload_n 1, 1) := by decide +kernel
theorem dX6_compare_106 : decode cX6_compare 106 = .ok (.iconst 0, 1) := by decide +kernel
theorem dX6_compare_107 : decode cX6_compare 107 = .ok (.invokevirtual 191, 3) := by decide +kernel
theorem dX6_compare_110 : decode cX6_compare 110 = .ok (.isub, 1) := by decide +kernel
theorem dX6_compare_111 : decode cX6_compare 111 = .ok (.i2l, 1) := by decide +kernel
theorem dX6_compare_112 : decode cX6_compare 112 = .ok (.ldc2_w 194, 3) := by decide +kernel
theorem dX6_compare_115 : decode cX6_compare 115 = .ok (.invokevirtual 122, 3) := by decide +kernel
theorem dX6_compare_118 : decode cX6_compare 118 = .ok (.iconst 1, 1) := by decide +kernel
theorem dX6_compare_119 : decode cX6_compare 119 = .ok (.ireturn, 1) := by decide +kernel
set_option maxRecDepth 20000 in
theorem ggX6_certify_X0_has : GoodIn wsX6_certify wsX0_has := goodIn_r _ [7, 8, 9, 10, 11, 51, 52, 53] (by decide +kernel) (by decide +kernel)
set_option maxRecDepth 20000 in
theorem gX6_certify_X0_has : GoodIn wsX6_certify (wsV RX6 165 RX0 yX0_has wsX0_has) := goodIn_app (goodIn_of _ (by decide +kernel)) ggX6_certify_X0_has
set_option maxRecDepth 20000 in
theorem ggX6_certify_X6_isBath : GoodIn wsX6_certify wsX6_isBath := goodIn_r _ [14, 15, 9, 10, 11] (by decide +kernel) (by decide +kernel)
set_option maxRecDepth 20000 in
theorem gX6_certify_X6_isBath : GoodIn wsX6_certify (va_wsS RX6 196 yX6_isBath wsX6_isBath) := goodIn_app (goodIn_of _ (by decide +kernel)) ggX6_certify_X6_isBath
set_option maxRecDepth 20000 in
theorem ggX6_certify_X6_isDay : GoodIn wsX6_certify wsX6_isDay := goodIn_r _ [18, 19, 15, 9, 10, 11] (by decide +kernel) (by decide +kernel)
set_option maxRecDepth 20000 in
theorem gX6_certify_X6_isDay : GoodIn wsX6_certify (va_wsS RX6 199 yX6_isDay wsX6_isDay) := goodIn_app (goodIn_of _ (by decide +kernel)) ggX6_certify_X6_isDay
set_option maxRecDepth 20000 in
theorem ggX6_certify_X6_isWithin : GoodIn wsX6_certify wsX6_isWithin := goodIn_r _ [22, 15, 9, 10, 11] (by decide +kernel) (by decide +kernel)
set_option maxRecDepth 20000 in
theorem gX6_certify_X6_isWithin : GoodIn wsX6_certify (va_wsS RX6 76 yX6_isWithin wsX6_isWithin) := goodIn_app (goodIn_of _ (by decide +kernel)) ggX6_certify_X6_isWithin
set_option maxRecDepth 20000 in
theorem ggX6_certify_X6_isBetween : GoodIn wsX6_certify wsX6_isBetween := goodIn_r _ [11] (by decide +kernel) (by decide +kernel)
set_option maxRecDepth 20000 in
theorem gX6_certify_X6_isBetween : GoodIn wsX6_certify (va_wsS RX6 113 yX6_isBetween wsX6_isBetween) := goodIn_app (goodIn_of _ (by decide +kernel)) ggX6_certify_X6_isBetween
set_option maxRecDepth 20000 in
theorem ggX6_certify_X1_size : GoodIn wsX6_certify wsX1_size := goodIn_r _ [27, 28, 54, 55] (by decide +kernel) (by decide +kernel)
set_option maxRecDepth 20000 in
theorem gX6_certify_X1_size : GoodIn wsX6_certify (wsV RX6 202 RX1 yX1_size wsX1_size) := goodIn_app (goodIn_of _ (by decide +kernel)) ggX6_certify_X1_size
set_option maxRecDepth 20000 in
theorem ggX6_certify_X1_lastUntil : GoodIn wsX6_certify wsX1_lastUntil := goodIn_r _ [32, 28, 33, 34, 35, 36, 37, 54, 55] (by decide +kernel) (by decide +kernel)
set_option maxRecDepth 20000 in
theorem gX6_certify_X1_lastUntil : GoodIn wsX6_certify (wsV RX6 203 RX1 yX1_lastUntil wsX1_lastUntil) := goodIn_app (goodIn_of _ (by decide +kernel)) ggX6_certify_X1_lastUntil
set_option maxRecDepth 20000 in
theorem ggX6_certify_X1_add : GoodIn wsX6_certify wsX1_add := goodIn_r _ [41, 37, 28, 54, 55] (by decide +kernel) (by decide +kernel)
set_option maxRecDepth 20000 in
theorem gX6_certify_X1_add : GoodIn wsX6_certify (wsV RX6 206 RX1 yX1_add wsX1_add) := goodIn_app (goodIn_of _ (by decide +kernel)) ggX6_certify_X1_add
theorem dX6_certify_0 : decode cX6_certify 0 = .ok (.aload_n 0, 1) := by decide +kernel
theorem dX6_certify_1 : decode cX6_certify 1 = .ok (.getfield 26, 3) := by decide +kernel
theorem dX6_certify_4 : decode cX6_certify 4 = .ok (.iload_n 1, 1) := by decide +kernel
theorem dX6_certify_5 : decode cX6_certify 5 = .ok (.invokevirtual 165, 3) := by decide +kernel
theorem dX6_certify_8 : decode cX6_certify 8 = .ok (.ifCond .eq 63, 3) := by decide +kernel
theorem dX6_certify_11 : decode cX6_certify 11 = .ok (.iload_n 2, 1) := by decide +kernel
theorem dX6_certify_12 : decode cX6_certify 12 = .ok (.bipush (-9), 2) := by decide +kernel
theorem dX6_certify_14 : decode cX6_certify 14 = .ok (.if_icmp .eq 14, 3) := by decide +kernel
theorem dX6_certify_17 : decode cX6_certify 17 = .ok (.aload_n 0, 1) := by decide +kernel
theorem dX6_certify_18 : decode cX6_certify 18 = .ok (.getfield 26, 3) := by decide +kernel
theorem dX6_certify_21 : decode cX6_certify 21 = .ok (.iload_n 2, 1) := by decide +kernel
theorem dX6_certify_22 : decode cX6_certify 22 = .ok (.invokevirtual 165, 3) := by decide +kernel
theorem dX6_certify_25 : decode cX6_certify 25 = .ok (.ifCond .eq 46, 3) := by decide +kernel
theorem dX6_certify_28 : decode cX6_certify 28 = .ok (.iload_n 2, 1) := by decide +kernel
theorem dX6_certify_29 : decode cX6_certify 29 = .ok (.iload_n 1, 1) := by decide +kernel
theorem dX6_certify_30 : decode cX6_certify 30 = .ok (.if_icmp .eq 41, 3) := by decide +kernel
theorem dX6_certify_33 : decode cX6_certify 33 = .ok (.iload_n 3, 1) := by decide +kernel
theorem dX6_certify_34 : decode cX6_certify 34 = .ok (.invokestatic 196, 3) := by decide +kernel
theorem dX6_certify_37 : decode cX6_certify 37 = .ok (.ifCond .eq 34, 3) := by decide +kernel
theorem dX6_certify_40 : decode cX6_certify 40 = .ok (.iload 4, 2) := by decide +kernel
theorem dX6_certify_42 : decode cX6_certify 42 = .ok (.invokestatic 199, 3) := by decide +kernel
theorem dX6_certify_45 : decode cX6_certify 45 = .ok (.ifCond .eq 26, 3) := by decide +kernel
theorem dX6_certify_48 : decode cX6_certify 48 = .ok (.iload 5, 2) := by decide +kernel
theorem dX6_certify_50 : decode cX6_certify 50 = .ok (.sipush 10000, 3) := by decide +kernel
theorem dX6_certify_53 : decode cX6_certify 53 = .ok (.invokestatic 76, 3) := by decide +kernel
theorem dX6_certify_56 : decode cX6_certify 56 = .ok (.ifCond .eq 15, 3) := by decide +kernel
theorem dX6_certify_59 : decode cX6_certify 59 = .ok (.iload 6, 2) := by decide +kernel
theorem dX6_certify_61 : decode cX6_certify 61 = .ok (.iconst 0, 1) := by decide +kernel
theorem dX6_certify_62 : decode cX6_certify 62 = .ok (.sipush 10000, 3) := by decide +kernel
theorem dX6_certify_65 : decode cX6_certify 65 = .ok (.invokestatic 113, 3) := by decide +kernel
theorem dX6_certify_68 : decode cX6_certify 68 = .ok (.ifCond .ne 5, 3) := by decide +kernel
theorem dX6_certify_71 : decode cX6_certify 71 = .ok (.iconst (-1), 1) := by decide +kernel
theorem dX6_certify_72 : decode cX6_certify 72 = .ok (.ireturn, 1) := by decide +kernel
theorem dX6_certify_73 : decode cX6_certify 73 = .ok (.aload_n 0, 1) := by decide +kernel
theorem dX6_certify_74 : decode cX6_certify 74 = .ok (.getfield 33, 3) := by decide +kernel
theorem dX6_certify_77 : decode cX6_certify 77 = .ok (.invokevirtual 202, 3) := by decide +kernel
theorem dX6_certify_80 : decode cX6_certify 80 = .ok (.bipush 40, 2) := by decide +kernel
theorem dX6_certify_82 : decode cX6_certify 82 = .ok (.if_icmp .lt 6, 3) := by decide +kernel
theorem dX6_certify_85 : decode cX6_certify 85 = .ok (.bipush (-2), 2) := by decide +kernel
theorem dX6_certify_87 : decode cX6_certify 87 = .ok (.ireturn, 1) := by decide +kernel
theorem dX6_certify_88 : decode cX6_certify 88 = .ok (.iload_n 2, 1) := by decide +kernel
theorem dX6_certify_89 : decode cX6_certify 89 = .ok (.bipush (-9), 2) := by decide +kernel
theorem dX6_certify_91 : decode cX6_certify 91 = .ok (.if_icmp .ne 8, 3) := by decide +kernel
theorem dX6_certify_94 : decode cX6_certify 94 = .ok (.bipush (-9), 2) := by decide +kernel
theorem dX6_certify_96 : decode cX6_certify 96 = .ok (.goto 20, 3) := by decide +kernel
theorem dX6_certify_99 : decode cX6_certify 99 = .ok (.aload_n 0, 1) := by decide +kernel
theorem dX6_certify_100 : decode cX6_certify 100 = .ok (.getfield 33, 3) := by decide +kernel
theorem dX6_certify_103 : decode cX6_certify 103 = .ok (.iload_n 2, 1) := by decide +kernel
theorem dX6_certify_104 : decode cX6_certify 104 = .ok (.iload 4, 2) := by decide +kernel
theorem dX6_certify_106 : decode cX6_certify 106 = .ok (.aload_n 0, 1) := by decide +kernel
theorem dX6_certify_107 : decode cX6_certify 107 = .ok (.getfield 33, 3) := by decide +kernel
theorem dX6_certify_110 : decode cX6_certify 110 = .ok (.invokevirtual 202, 3) := by decide +kernel
theorem dX6_certify_113 : decode cX6_certify 113 = .ok (.invokevirtual 203, 3) := by decide +kernel
theorem dX6_certify_116 : decode cX6_certify 116 = .ok (.istore 7, 2) := by decide +kernel
theorem dX6_certify_118 : decode cX6_certify 118 = .ok (.iload_n 2, 1) := by decide +kernel
theorem dX6_certify_119 : decode cX6_certify 119 = .ok (.bipush (-9), 2) := by decide +kernel
theorem dX6_certify_121 : decode cX6_certify 121 = .ok (.if_icmp .eq 13, 3) := by decide +kernel
theorem dX6_certify_124 : decode cX6_certify 124 = .ok (.iload 7, 2) := by decide +kernel
theorem dX6_certify_126 : decode cX6_certify 126 = .ok (.bipush (-9), 2) := by decide +kernel
theorem dX6_certify_128 : decode cX6_certify 128 = .ok (.if_icmp .ne 6, 3) := by decide +kernel
theorem dX6_certify_131 : decode cX6_certify 131 = .ok (.bipush (-4), 2) := by decide +kernel
theorem dX6_certify_133 : decode cX6_certify 133 = .ok (.ireturn, 1) := by decide +kernel
theorem dX6_certify_134 : decode cX6_certify 134 = .ok (.aload_n 0, 1) := by decide +kernel
theorem dX6_certify_135 : decode cX6_certify 135 = .ok (.getfield 33, 3) := by decide +kernel
theorem dX6_certify_138 : decode cX6_certify 138 = .ok (.iload_n 1, 1) := by decide +kernel
theorem dX6_certify_139 : decode cX6_certify 139 = .ok (.iload_n 2, 1) := by decide +kernel
theorem dX6_certify_140 : decode cX6_certify 140 = .ok (.iload_n 3, 1) := by decide +kernel
theorem dX6_certify_141 : decode cX6_certify 141 = .ok (.iload 4, 2) := by decide +kernel
theorem dX6_certify_143 : decode cX6_certify 143 = .ok (.iload 5, 2) := by decide +kernel
theorem dX6_certify_145 : decode cX6_certify 145 = .ok (.iload 6, 2) := by decide +kernel
theorem dX6_certify_147 : decode cX6_certify 147 = .ok (.iload 7, 2) := by decide +kernel
theorem dX6_certify_149 : decode cX6_certify 149 = .ok (.invokevirtual 206, 3) := by decide +kernel
theorem dX6_certify_152 : decode cX6_certify 152 = .ok (.ireturn, 1) := by decide +kernel
set_option maxRecDepth 20000 in
theorem ggX6_certificate_X1_has : GoodIn wsX6_certificate wsX1_has := goodIn_r _ [6, 7, 8, 9, 10, 26, 27] (by decide +kernel) (by decide +kernel)
set_option maxRecDepth 20000 in
theorem gX6_certificate_X1_has : GoodIn wsX6_certificate (wsV RX6 209 RX1 yX1_has wsX1_has) := goodIn_app (goodIn_of _ (by decide +kernel)) ggX6_certificate_X1_has
set_option maxRecDepth 20000 in
theorem ggX6_certificate_X6_isBetween : GoodIn wsX6_certificate wsX6_isBetween := goodIn_r _ [10] (by decide +kernel) (by decide +kernel)
set_option maxRecDepth 20000 in
theorem gX6_certificate_X6_isBetween : GoodIn wsX6_certificate (va_wsS RX6 113 yX6_isBetween wsX6_isBetween) := goodIn_app (goodIn_of _ (by decide +kernel)) ggX6_certificate_X6_isBetween
set_option maxRecDepth 20000 in
theorem ggX6_certificate_X1_fact : GoodIn wsX6_certificate wsX1_fact := goodIn_r _ [15, 16, 26, 27] (by decide +kernel) (by decide +kernel)
set_option maxRecDepth 20000 in
theorem gX6_certificate_X1_fact : GoodIn wsX6_certificate (wsV RX6 210 RX1 yX1_fact wsX1_fact) := goodIn_app (goodIn_of _ (by decide +kernel)) ggX6_certificate_X1_fact
theorem dX6_certificate_0 : decode cX6_certificate 0 = .ok (.aload_n 0, 1) := by decide +kernel
theorem dX6_certificate_1 : decode cX6_certificate 1 = .ok (.getfield 33, 3) := by decide +kernel
theorem dX6_certificate_4 : decode cX6_certificate 4 = .ok (.iload_n 1, 1) := by decide +kernel
theorem dX6_certificate_5 : decode cX6_certificate 5 = .ok (.invokevirtual 209, 3) := by decide +kernel
theorem dX6_certificate_8 : decode cX6_certificate 8 = .ok (.ifCond .eq 13, 3) := by decide +kernel
theorem dX6_certificate_11 : decode cX6_certificate 11 = .ok (.iload_n 2, 1) := by decide +kernel
theorem dX6_certificate_12 : decode cX6_certificate 12 = .ok (.iconst 0, 1) := by decide +kernel
theorem dX6_certificate_13 : decode cX6_certificate 13 = .ok (.bipush 6, 2) := by decide +kernel
theorem dX6_certificate_15 : decode cX6_certificate 15 = .ok (.invokestatic 113, 3) := by decide +kernel
theorem dX6_certificate_18 : decode cX6_certificate 18 = .ok (.ifCond .ne 5, 3) := by decide +kernel
theorem dX6_certificate_21 : decode cX6_certificate 21 = .ok (.iconst (-1), 1) := by decide +kernel
theorem dX6_certificate_22 : decode cX6_certificate 22 = .ok (.ireturn, 1) := by decide +kernel
theorem dX6_certificate_23 : decode cX6_certificate 23 = .ok (.aload_n 0, 1) := by decide +kernel
theorem dX6_certificate_24 : decode cX6_certificate 24 = .ok (.getfield 33, 3) := by decide +kernel
theorem dX6_certificate_27 : decode cX6_certificate 27 = .ok (.iload_n 1, 1) := by decide +kernel
theorem dX6_certificate_28 : decode cX6_certificate 28 = .ok (.iload_n 2, 1) := by decide +kernel
theorem dX6_certificate_29 : decode cX6_certificate 29 = .ok (.invokevirtual 210, 3) := by decide +kernel
theorem dX6_certificate_32 : decode cX6_certificate 32 = .ok (.ireturn, 1) := by decide +kernel
set_option maxRecDepth 20000 in
theorem ggX6_offset_X1_has : GoodIn wsX6_offset wsX1_has := goodIn_r _ [7, 8, 9, 10, 11, 26, 27] (by decide +kernel) (by decide +kernel)
set_option maxRecDepth 20000 in
theorem gX6_offset_X1_has : GoodIn wsX6_offset (wsV RX6 209 RX1 yX1_has wsX1_has) := goodIn_app (goodIn_of _ (by decide +kernel)) ggX6_offset_X1_has
set_option maxRecDepth 20000 in
theorem ggX6_offset_X1_fact : GoodIn wsX6_offset wsX1_fact := goodIn_r _ [15, 16, 26, 27] (by decide +kernel) (by decide +kernel)
set_option maxRecDepth 20000 in
theorem gX6_offset_X1_fact : GoodIn wsX6_offset (wsV RX6 210 RX1 yX1_fact wsX1_fact) := goodIn_app (goodIn_of _ (by decide +kernel)) ggX6_offset_X1_fact
theorem dX6_offset_0 : decode cX6_offset 0 = .ok (.aload_n 0, 1) := by decide +kernel
theorem dX6_offset_1 : decode cX6_offset 1 = .ok (.getfield 33, 3) := by decide +kernel
theorem dX6_offset_4 : decode cX6_offset 4 = .ok (.iload_n 1, 1) := by decide +kernel
theorem dX6_offset_5 : decode cX6_offset 5 = .ok (.invokevirtual 209, 3) := by decide +kernel
theorem dX6_offset_8 : decode cX6_offset 8 = .ok (.ifCond .ne 5, 3) := by decide +kernel
theorem dX6_offset_11 : decode cX6_offset 11 = .ok (.iconst (-1), 1) := by decide +kernel
theorem dX6_offset_12 : decode cX6_offset 12 = .ok (.ireturn, 1) := by decide +kernel
theorem dX6_offset_13 : decode cX6_offset 13 = .ok (.aload_n 0, 1) := by decide +kernel
theorem dX6_offset_14 : decode cX6_offset 14 = .ok (.aload_n 0, 1) := by decide +kernel
theorem dX6_offset_15 : decode cX6_offset 15 = .ok (.getfield 33, 3) := by decide +kernel
theorem dX6_offset_18 : decode cX6_offset 18 = .ok (.iload_n 1, 1) := by decide +kernel
theorem dX6_offset_19 : decode cX6_offset 19 = .ok (.bipush 7, 2) := by decide +kernel
theorem dX6_offset_21 : decode cX6_offset 21 = .ok (.invokevirtual 210, 3) := by decide +kernel
theorem dX6_offset_24 : decode cX6_offset 24 = .ok (.i2l, 1) := by decide +kernel
theorem dX6_offset_25 : decode cX6_offset 25 = .ok (.putfield 59, 3) := by decide +kernel
theorem dX6_offset_28 : decode cX6_offset 28 = .ok (.iconst 1, 1) := by decide +kernel
theorem dX6_offset_29 : decode cX6_offset 29 = .ok (.ireturn, 1) := by decide +kernel
set_option maxRecDepth 20000 in
theorem ggX6_wrong_X6_isBath : GoodIn wsX6_wrong wsX6_isBath := goodIn_r _ [5, 6, 7, 4, 8] (by decide +kernel) (by decide +kernel)
set_option maxRecDepth 20000 in
theorem gX6_wrong_X6_isBath : GoodIn wsX6_wrong (va_wsS RX6 196 yX6_isBath wsX6_isBath) := goodIn_app (goodIn_of _ (by decide +kernel)) ggX6_wrong_X6_isBath
set_option maxRecDepth 20000 in
theorem ggX6_wrong_X6_isDay : GoodIn wsX6_wrong wsX6_isDay := goodIn_r _ [11, 12, 6, 7, 4, 8] (by decide +kernel) (by decide +kernel)
set_option maxRecDepth 20000 in
theorem gX6_wrong_X6_isDay : GoodIn wsX6_wrong (va_wsS RX6 199 yX6_isDay wsX6_isDay) := goodIn_app (goodIn_of _ (by decide +kernel)) ggX6_wrong_X6_isDay
set_option maxRecDepth 20000 in
theorem ggX6_wrong_X1_makeVoid : GoodIn wsX6_wrong wsX1_makeVoid := goodIn_r _ [17, 18, 19, 7, 4, 8, 20, 21, 22, 16, 23, 24, 25, 26, 27, 37, 38] (by decide +kernel) (by decide +kernel)
set_option maxRecDepth 20000 in
theorem gX6_wrong_X1_makeVoid : GoodIn wsX6_wrong (wsV RX6 213 RX1 yX1_makeVoid wsX1_makeVoid) := goodIn_app (goodIn_of _ (by decide +kernel)) ggX6_wrong_X1_makeVoid
theorem dX6_wrong_0 : decode cX6_wrong 0 = .ok (.iload_n 1, 1) := by decide +kernel
theorem dX6_wrong_1 : decode cX6_wrong 1 = .ok (.invokestatic 196, 3) := by decide +kernel
theorem dX6_wrong_4 : decode cX6_wrong 4 = .ok (.ifCond .eq 22, 3) := by decide +kernel
theorem dX6_wrong_7 : decode cX6_wrong 7 = .ok (.iload_n 2, 1) := by decide +kernel
theorem dX6_wrong_8 : decode cX6_wrong 8 = .ok (.invokestatic 199, 3) := by decide +kernel
theorem dX6_wrong_11 : decode cX6_wrong 11 = .ok (.ifCond .eq 15, 3) := by decide +kernel
theorem dX6_wrong_14 : decode cX6_wrong 14 = .ok (.iload_n 3, 1) := by decide +kernel
theorem dX6_wrong_15 : decode cX6_wrong 15 = .ok (.invokestatic 199, 3) := by decide +kernel
theorem dX6_wrong_18 : decode cX6_wrong 18 = .ok (.ifCond .eq 8, 3) := by decide +kernel
theorem dX6_wrong_21 : decode cX6_wrong 21 = .ok (.iload_n 2, 1) := by decide +kernel
theorem dX6_wrong_22 : decode cX6_wrong 22 = .ok (.iload_n 3, 1) := by decide +kernel
theorem dX6_wrong_23 : decode cX6_wrong 23 = .ok (.if_icmp .le 5, 3) := by decide +kernel
theorem dX6_wrong_26 : decode cX6_wrong 26 = .ok (.iconst (-1), 1) := by decide +kernel
theorem dX6_wrong_27 : decode cX6_wrong 27 = .ok (.ireturn, 1) := by decide +kernel
theorem dX6_wrong_28 : decode cX6_wrong 28 = .ok (.aload_n 0, 1) := by decide +kernel
theorem dX6_wrong_29 : decode cX6_wrong 29 = .ok (.getfield 33, 3) := by decide +kernel
theorem dX6_wrong_32 : decode cX6_wrong 32 = .ok (.iload_n 1, 1) := by decide +kernel
theorem dX6_wrong_33 : decode cX6_wrong 33 = .ok (.iload_n 2, 1) := by decide +kernel
theorem dX6_wrong_34 : decode cX6_wrong 34 = .ok (.iload_n 3, 1) := by decide +kernel
theorem dX6_wrong_35 : decode cX6_wrong 35 = .ok (.invokevirtual 213, 3) := by decide +kernel
theorem dX6_wrong_38 : decode cX6_wrong 38 = .ok (.ireturn, 1) := by decide +kernel
set_option maxRecDepth 20000 in
theorem ggX6_passes_X0_has : GoodIn wsX6_passes wsX0_has := goodIn_r _ [11, 12, 13, 14, 15, 49, 50, 51] (by decide +kernel) (by decide +kernel)
set_option maxRecDepth 20000 in
theorem gX6_passes_X0_has : GoodIn wsX6_passes (wsV RX6 165 RX0 yX0_has wsX0_has) := goodIn_app (goodIn_of _ (by decide +kernel)) ggX6_passes_X0_has
set_option maxRecDepth 20000 in
theorem ggX6_passes_X1_latestOf : GoodIn wsX6_passes wsX1_latestOf := goodIn_r _ [20, 21, 22, 23, 24, 25, 19, 26, 27, 28, 5, 29, 30, 52, 53] (by decide +kernel) (by decide +kernel)
set_option maxRecDepth 20000 in
theorem gX6_passes_X1_latestOf : GoodIn wsX6_passes (wsV RX6 178 RX1 yX1_latestOf wsX1_latestOf) := goodIn_app (goodIn_of _ (by decide +kernel)) ggX6_passes_X1_latestOf
set_option maxRecDepth 20000 in
theorem ggX6_passes_X1_fact : GoodIn wsX6_passes wsX1_fact := goodIn_r _ [34, 30, 52, 53] (by decide +kernel) (by decide +kernel)
set_option maxRecDepth 20000 in
theorem gX6_passes_X1_fact : GoodIn wsX6_passes (wsV RX6 210 RX1 yX1_fact wsX1_fact) := goodIn_app (goodIn_of _ (by decide +kernel)) ggX6_passes_X1_fact
set_option maxRecDepth 20000 in
theorem ggX6_passes_X0_toleranceOf : GoodIn wsX6_passes wsX0_toleranceOf := goodIn_r _ [38, 39, 49, 50, 51] (by decide +kernel) (by decide +kernel)
set_option maxRecDepth 20000 in
theorem gX6_passes_X0_toleranceOf : GoodIn wsX6_passes (wsV RX6 171 RX0 yX0_toleranceOf wsX0_toleranceOf) := goodIn_app (goodIn_of _ (by decide +kernel)) ggX6_passes_X0_toleranceOf
theorem dX6_passes_0 : decode cX6_passes 0 = .ok (.aload_n 0, 1) := by decide +kernel
theorem dX6_passes_1 : decode cX6_passes 1 = .ok (.getfield 26, 3) := by decide +kernel
theorem dX6_passes_4 : decode cX6_passes 4 = .ok (.iload_n 1, 1) := by decide +kernel
theorem dX6_passes_5 : decode cX6_passes 5 = .ok (.invokevirtual 165, 3) := by decide +kernel
theorem dX6_passes_8 : decode cX6_passes 8 = .ok (.ifCond .ne 5, 3) := by decide +kernel
theorem dX6_passes_11 : decode cX6_passes 11 = .ok (.iconst (-1), 1) := by decide +kernel
theorem dX6_passes_12 : decode cX6_passes 12 = .ok (.ireturn, 1) := by decide +kernel
theorem dX6_passes_13 : decode cX6_passes 13 = .ok (.aload_n 0, 1) := by decide +kernel
theorem dX6_passes_14 : decode cX6_passes 14 = .ok (.getfield 33, 3) := by decide +kernel
theorem dX6_passes_17 : decode cX6_passes 17 = .ok (.iload_n 1, 1) := by decide +kernel
theorem dX6_passes_18 : decode cX6_passes 18 = .ok (.invokevirtual 178, 3) := by decide +kernel
theorem dX6_passes_21 : decode cX6_passes 21 = .ok (.istore_n 2, 1) := by decide +kernel
theorem dX6_passes_22 : decode cX6_passes 22 = .ok (.iload_n 2, 1) := by decide +kernel
theorem dX6_passes_23 : decode cX6_passes 23 = .ok (.bipush (-9), 2) := by decide +kernel
theorem dX6_passes_25 : decode cX6_passes 25 = .ok (.if_icmp .ne 6, 3) := by decide +kernel
theorem dX6_passes_28 : decode cX6_passes 28 = .ok (.bipush (-4), 2) := by decide +kernel
theorem dX6_passes_30 : decode cX6_passes 30 = .ok (.ireturn, 1) := by decide +kernel
theorem dX6_passes_31 : decode cX6_passes 31 = .ok (.aload_n 0, 1) := by decide +kernel
theorem dX6_passes_32 : decode cX6_passes 32 = .ok (.getfield 33, 3) := by decide +kernel
theorem dX6_passes_35 : decode cX6_passes 35 = .ok (.iload_n 2, 1) := by decide +kernel
theorem dX6_passes_36 : decode cX6_passes 36 = .ok (.bipush 7, 2) := by decide +kernel
theorem dX6_passes_38 : decode cX6_passes 38 = .ok (.invokevirtual 210, 3) := by decide +kernel
theorem dX6_passes_41 : decode cX6_passes 41 = .ok (.invokestatic 216, 3) := by decide +kernel
theorem dX6_passes_44 : decode cX6_passes 44 = .ok (.aload_n 0, 1) := by decide +kernel
theorem dX6_passes_45 : decode cX6_passes 45 = .ok (.getfield 33, 3) := by decide +kernel
theorem dX6_passes_48 : decode cX6_passes 48 = .ok (.iload_n 2, 1) := by decide +kernel
theorem dX6_passes_49 : decode cX6_passes 49 = .ok (.iconst 4, 1) := by decide +kernel
theorem dX6_passes_50 : decode cX6_passes 50 = .ok (.invokevirtual 210, 3) := by decide +kernel
theorem dX6_passes_53 : decode cX6_passes 53 = .ok (.iadd, 1) := by decide +kernel
theorem dX6_passes_54 : decode cX6_passes 54 = .ok (.istore_n 3, 1) := by decide +kernel
theorem dX6_passes_55 : decode cX6_passes 55 = .ok (.iload_n 3, 1) := by decide +kernel
theorem dX6_passes_56 : decode cX6_passes 56 = .ok (.aload_n 0, 1) := by decide +kernel
theorem dX6_passes_57 : decode cX6_passes 57 = .ok (.getfield 26, 3) := by decide +kernel
theorem dX6_passes_60 : decode cX6_passes 60 = .ok (.iload_n 1, 1) := by decide +kernel
theorem dX6_passes_61 : decode cX6_passes 61 = .ok (.invokevirtual 171, 3) := by decide +kernel
theorem dX6_passes_64 : decode cX6_passes 64 = .ok (.if_icmp .gt 7, 3) := by decide +kernel
theorem dX6_passes_67 : decode cX6_passes 67 = .ok (.iconst 1, 1) := by decide +kernel
theorem dX6_passes_68 : decode cX6_passes 68 = .ok (.goto 4, 3) := by decide +kernel
theorem dX6_passes_71 : decode cX6_passes 71 = .ok (.iconst 0, 1) := by decide +kernel
theorem dX6_passes_72 : decode cX6_passes 72 = .ok (.ireturn, 1) := by decide +kernel
set_option maxRecDepth 20000 in
theorem ggX6_whole_X1_has : GoodIn wsX6_whole wsX1_has := goodIn_r _ [7, 8, 9, 10, 11, 31, 32] (by decide +kernel) (by decide +kernel)
set_option maxRecDepth 20000 in
theorem gX6_whole_X1_has : GoodIn wsX6_whole (wsV RX6 209 RX1 yX1_has wsX1_has) := goodIn_app (goodIn_of _ (by decide +kernel)) ggX6_whole_X1_has
set_option maxRecDepth 20000 in
theorem ggX6_whole_X1_squaredEnds : GoodIn wsX6_whole wsX1_squaredEnds := goodIn_r _ [15, 16, 17, 4, 5, 6, 7, 8, 9, 10, 11, 31, 32] (by decide +kernel) (by decide +kernel)
set_option maxRecDepth 20000 in
theorem gX6_whole_X1_squaredEnds : GoodIn wsX6_whole (wsV RX6 218 RX1 yX1_squaredEnds wsX1_squaredEnds) := goodIn_app (goodIn_of _ (by decide +kernel)) ggX6_whole_X1_squaredEnds
set_option maxRecDepth 20000 in
theorem ggX6_whole_X1_chainLength : GoodIn wsX6_whole wsX1_chainLength := goodIn_r _ [21, 16, 17, 4, 5, 6, 7, 8, 9, 10, 11, 31, 32] (by decide +kernel) (by decide +kernel)
set_option maxRecDepth 20000 in
theorem gX6_whole_X1_chainLength : GoodIn wsX6_whole (wsV RX6 221 RX1 yX1_chainLength wsX1_chainLength) := goodIn_app (goodIn_of _ (by decide +kernel)) ggX6_whole_X1_chainLength
theorem dX6_whole_0 : decode cX6_whole 0 = .ok (.aload_n 0, 1) := by decide +kernel
theorem dX6_whole_1 : decode cX6_whole 1 = .ok (.getfield 33, 3) := by decide +kernel
theorem dX6_whole_4 : decode cX6_whole 4 = .ok (.iload_n 1, 1) := by decide +kernel
theorem dX6_whole_5 : decode cX6_whole 5 = .ok (.invokevirtual 209, 3) := by decide +kernel
theorem dX6_whole_8 : decode cX6_whole 8 = .ok (.ifCond .ne 5, 3) := by decide +kernel
theorem dX6_whole_11 : decode cX6_whole 11 = .ok (.iconst (-1), 1) := by decide +kernel
theorem dX6_whole_12 : decode cX6_whole 12 = .ok (.ireturn, 1) := by decide +kernel
theorem dX6_whole_13 : decode cX6_whole 13 = .ok (.aload_n 0, 1) := by decide +kernel
theorem dX6_whole_14 : decode cX6_whole 14 = .ok (.aload_n 0, 1) := by decide +kernel
theorem dX6_whole_15 : decode cX6_whole 15 = .ok (.getfield 33, 3) := by decide +kernel
theorem dX6_whole_18 : decode cX6_whole 18 = .ok (.iload_n 1, 1) := by decide +kernel
theorem dX6_whole_19 : decode cX6_whole 19 = .ok (.invokevirtual 218, 3) := by decide +kernel
theorem dX6_whole_22 : decode cX6_whole 22 = .ok (.putfield 59, 3) := by decide +kernel
theorem dX6_whole_25 : decode cX6_whole 25 = .ok (.aload_n 0, 1) := by decide +kernel
theorem dX6_whole_26 : decode cX6_whole 26 = .ok (.getfield 33, 3) := by decide +kernel
theorem dX6_whole_29 : decode cX6_whole 29 = .ok (.iload_n 1, 1) := by decide +kernel
theorem dX6_whole_30 : decode cX6_whole 30 = .ok (.invokevirtual 221, 3) := by decide +kernel
theorem dX6_whole_33 : decode cX6_whole 33 = .ok (.ireturn, 1) := by decide +kernel
set_option maxRecDepth 20000 in
theorem ggX6_drift_X6_driftRefusal : GoodIn wsX6_drift wsX6_driftRefusal := goodIn_r _ [8, 9, 1, 2, 10, 11, 12, 13, 14, 15, 16, 7, 17, 18, 19, 20, 21, 22, 23, 24, 25, 26, 27, 28, 29, 30, 31, 32, 33, 34, 35, 36, 37, 38, 39, 40, 41, 42, 43, 44, 45, 58, 59, 60, 61, 62, 63, 64, 65, 66, 67, 68, 69, 70, 71] (by decide +kernel) (by decide +kernel)
set_option maxRecDepth 20000 in
theorem gX6_drift_X6_driftRefusal : GoodIn wsX6_drift (wsV RX6 224 RX6 yX6_driftRefusal wsX6_driftRefusal) := goodIn_app (goodIn_of _ (by decide +kernel)) ggX6_drift_X6_driftRefusal
set_option maxRecDepth 20000 in
theorem ggX6_drift_X1_latestOf : GoodIn wsX6_drift wsX1_latestOf := goodIn_r _ [22, 23, 24, 25, 26, 27, 21, 28, 29, 30, 31, 32, 33, 70, 71] (by decide +kernel) (by decide +kernel)
set_option maxRecDepth 20000 in
theorem gX6_drift_X1_latestOf : GoodIn wsX6_drift (wsV RX6 178 RX1 yX1_latestOf wsX1_latestOf) := goodIn_app (goodIn_of _ (by decide +kernel)) ggX6_drift_X1_latestOf
set_option maxRecDepth 20000 in
theorem ggX6_drift_X1_lastUntil : GoodIn wsX6_drift wsX1_lastUntil := goodIn_r _ [28, 24, 29, 30, 31, 32, 33, 70, 71] (by decide +kernel) (by decide +kernel)
set_option maxRecDepth 20000 in
theorem gX6_drift_X1_lastUntil : GoodIn wsX6_drift (wsV RX6 203 RX1 yX1_lastUntil wsX1_lastUntil) := goodIn_app (goodIn_of _ (by decide +kernel)) ggX6_drift_X1_lastUntil
set_option maxRecDepth 20000 in
theorem ggX6_drift_X1_rise : GoodIn wsX6_drift wsX1_rise := goodIn_r _ [38, 33, 70, 71] (by decide +kernel) (by decide +kernel)
set_option maxRecDepth 20000 in
theorem gX6_drift_X1_rise : GoodIn wsX6_drift (wsV RX6 227 RX1 yX1_rise wsX1_rise) := goodIn_app (goodIn_of _ (by decide +kernel)) ggX6_drift_X1_rise
set_option maxRecDepth 20000 in
theorem ggX6_drift_X2_tell : GoodIn wsX6_drift wsX2_tell := goodIn_r _ [50, 51, 52, 53, 7, 54, 55, 56, 31, 57, 72, 73] (by decide +kernel) (by decide +kernel)
set_option maxRecDepth 20000 in
theorem gX6_drift_X2_tell : GoodIn wsX6_drift (wsV RX6 122 RX2 yX2_tell wsX2_tell) := goodIn_app (goodIn_of _ (by decide +kernel)) ggX6_drift_X2_tell
theorem dX6_drift_0 : decode cX6_drift 0 = .ok (.aload_n 0, 1) := by decide +kernel
theorem dX6_drift_1 : decode cX6_drift 1 = .ok (.iload_n 1, 1) := by decide +kernel
theorem dX6_drift_2 : decode cX6_drift 2 = .ok (.invokevirtual 224, 3) := by decide +kernel
theorem dX6_drift_5 : decode cX6_drift 5 = .ok (.istore_n 2, 1) := by decide +kernel
theorem dX6_drift_6 : decode cX6_drift 6 = .ok (.iload_n 2, 1) := by decide +kernel
theorem dX6_drift_7 : decode cX6_drift 7 = .ok (.ifCond .eq 5, 3) := by decide +kernel
theorem dX6_drift_10 : decode cX6_drift 10 = .ok (.iload_n 2, 1) := by decide +kernel
theorem dX6_drift_11 : decode cX6_drift 11 = .ok (.ireturn, 1) := by decide +kernel
theorem dX6_drift_12 : decode cX6_drift 12 = .ok (.aload_n 0, 1) := by decide +kernel
theorem dX6_drift_13 : decode cX6_drift 13 = .ok (.getfield 33, 3) := by decide +kernel
theorem dX6_drift_16 : decode cX6_drift 16 = .ok (.iload_n 1, 1) := by decide +kernel
theorem dX6_drift_17 : decode cX6_drift 17 = .ok (.invokevirtual 178, 3) := by decide +kernel
theorem dX6_drift_20 : decode cX6_drift 20 = .ok (.istore_n 3, 1) := by decide +kernel
theorem dX6_drift_21 : decode cX6_drift 21 = .ok (.aload_n 0, 1) := by decide +kernel
theorem dX6_drift_22 : decode cX6_drift 22 = .ok (.getfield 33, 3) := by decide +kernel
theorem dX6_drift_25 : decode cX6_drift 25 = .ok (.iload_n 1, 1) := by decide +kernel
theorem dX6_drift_26 : decode cX6_drift 26 = .ok (.ldc 75, 2) := by decide +kernel
theorem dX6_drift_28 : decode cX6_drift 28 = .ok (.iload_n 3, 1) := by decide +kernel
theorem dX6_drift_29 : decode cX6_drift 29 = .ok (.invokevirtual 203, 3) := by decide +kernel
theorem dX6_drift_32 : decode cX6_drift 32 = .ok (.istore 4, 2) := by decide +kernel
theorem dX6_drift_34 : decode cX6_drift 34 = .ok (.aload_n 0, 1) := by decide +kernel
theorem dX6_drift_35 : decode cX6_drift 35 = .ok (.getfield 47, 3) := by decide +kernel
theorem dX6_drift_38 : decode cX6_drift 38 = .ok (.aload_n 0, 1) := by decide +kernel
theorem dX6_drift_39 : decode cX6_drift 39 = .ok (.getfield 33, 3) := by decide +kernel
theorem dX6_drift_42 : decode cX6_drift 42 = .ok (.bipush 7, 2) := by decide +kernel
theorem dX6_drift_44 : decode cX6_drift 44 = .ok (.iload 4, 2) := by decide +kernel
theorem dX6_drift_46 : decode cX6_drift 46 = .ok (.iload_n 3, 1) := by decide +kernel
theorem dX6_drift_47 : decode cX6_drift 47 = .ok (.invokevirtual 227, 3) := by decide +kernel
theorem dX6_drift_50 : decode cX6_drift 50 = .ok (.i2l, 1) := by decide +kernel
theorem dX6_drift_51 : decode cX6_drift 51 = .ok (.aload_n 0, 1) := by decide +kernel
theorem dX6_drift_52 : decode cX6_drift 52 = .ok (.getfield 33, 3) := by decide +kernel
theorem dX6_drift_55 : decode cX6_drift 55 = .ok (.iconst 3, 1) := by decide +kernel
theorem dX6_drift_56 : decode cX6_drift 56 = .ok (.iload 4, 2) := by decide +kernel
theorem dX6_drift_58 : decode cX6_drift 58 = .ok (.iload_n 3, 1) := by decide +kernel
theorem dX6_drift_59 : decode cX6_drift 59 = .ok (.invokevirtual 227, 3) := by decide +kernel
theorem dX6_drift_62 : decode cX6_drift 62 = .ok (.i2l, 1) := by decide +kernel
theorem dX6_drift_63 : decode cX6_drift 63 = .ok (.invokevirtual 122, 3) := by decide +kernel
theorem dX6_drift_66 : decode cX6_drift 66 = .ok (.iconst 1, 1) := by decide +kernel
theorem dX6_drift_67 : decode cX6_drift 67 = .ok (.ireturn, 1) := by decide +kernel
set_option maxRecDepth 20000 in
theorem ggX6_due_X6_driftRefusal : GoodIn wsX6_due wsX6_driftRefusal := goodIn_r _ [13, 3, 1, 2, 14, 15, 16, 17, 18, 19, 20, 12, 21, 22, 23, 24, 25, 26, 27, 28, 29, 30, 31, 32, 33, 34, 7, 35, 36, 37, 38, 39, 40, 41, 42, 43, 44, 45, 46, 47, 48, 64, 65, 66, 67, 68, 69, 70, 71, 72, 73, 74, 75, 76, 77] (by decide +kernel) (by decide +kernel)
set_option maxRecDepth 20000 in
theorem gX6_due_X6_driftRefusal : GoodIn wsX6_due (wsV RX6 224 RX6 yX6_driftRefusal wsX6_driftRefusal) := goodIn_app (goodIn_of _ (by decide +kernel)) ggX6_due_X6_driftRefusal
set_option maxRecDepth 20000 in
theorem ggX6_due_X1_latestOf : GoodIn wsX6_due wsX1_latestOf := goodIn_r _ [26, 27, 28, 29, 30, 31, 25, 32, 33, 34, 7, 35, 36, 76, 77] (by decide +kernel) (by decide +kernel)
set_option maxRecDepth 20000 in
theorem gX6_due_X1_latestOf : GoodIn wsX6_due (wsV RX6 178 RX1 yX1_latestOf wsX1_latestOf) := goodIn_app (goodIn_of _ (by decide +kernel)) ggX6_due_X1_latestOf
set_option maxRecDepth 20000 in
theorem ggX6_due_X1_lastUntil : GoodIn wsX6_due wsX1_lastUntil := goodIn_r _ [32, 28, 33, 34, 7, 35, 36, 76, 77] (by decide +kernel) (by decide +kernel)
set_option maxRecDepth 20000 in
theorem gX6_due_X1_lastUntil : GoodIn wsX6_due (wsV RX6 203 RX1 yX1_lastUntil wsX1_lastUntil) := goodIn_app (goodIn_of _ (by decide +kernel)) ggX6_due_X1_lastUntil
set_option maxRecDepth 20000 in
theorem ggX6_due_X1_rise : GoodIn wsX6_due wsX1_rise := goodIn_r _ [41, 36, 76, 77] (by decide +kernel) (by decide +kernel)
set_option maxRecDepth 20000 in
theorem gX6_due_X1_rise : GoodIn wsX6_due (wsV RX6 227 RX1 yX1_rise wsX1_rise) := goodIn_app (goodIn_of _ (by decide +kernel)) ggX6_due_X1_rise
set_option maxRecDepth 20000 in
theorem ggX6_due_X0_toleranceOf : GoodIn wsX6_due wsX0_toleranceOf := goodIn_r _ [52, 53, 73, 74, 75] (by decide +kernel) (by decide +kernel)
set_option maxRecDepth 20000 in
theorem gX6_due_X0_toleranceOf : GoodIn wsX6_due (wsV RX6 171 RX0 yX0_toleranceOf wsX0_toleranceOf) := goodIn_app (goodIn_of _ (by decide +kernel)) ggX6_due_X0_toleranceOf
set_option maxRecDepth 20000 in
theorem ggX6_due_X1_fact : GoodIn wsX6_due wsX1_fact := goodIn_r _ [57, 36, 76, 77] (by decide +kernel) (by decide +kernel)
set_option maxRecDepth 20000 in
theorem gX6_due_X1_fact : GoodIn wsX6_due (wsV RX6 210 RX1 yX1_fact wsX1_fact) := goodIn_app (goodIn_of _ (by decide +kernel)) ggX6_due_X1_fact
set_option maxRecDepth 20000 in
theorem ggX6_due_X6_daysWithin : GoodIn wsX6_due wsX6_daysWithin := goodIn_r _ [60, 61, 62, 7, 63, 4] (by decide +kernel) (by decide +kernel)
set_option maxRecDepth 20000 in
theorem gX6_due_X6_daysWithin : GoodIn wsX6_due (va_wsS RX6 230 yX6_daysWithin wsX6_daysWithin) := goodIn_app (goodIn_of _ (by decide +kernel)) ggX6_due_X6_daysWithin
theorem dX6_due_0 : decode cX6_due 0 = .ok (.aload_n 0, 1) := by decide +kernel
theorem dX6_due_1 : decode cX6_due 1 = .ok (.iload_n 1, 1) := by decide +kernel
theorem dX6_due_2 : decode cX6_due 2 = .ok (.invokevirtual 224, 3) := by decide +kernel
theorem dX6_due_5 : decode cX6_due 5 = .ok (.istore_n 2, 1) := by decide +kernel
theorem dX6_due_6 : decode cX6_due 6 = .ok (.iload_n 2, 1) := by decide +kernel
theorem dX6_due_7 : decode cX6_due 7 = .ok (.ifCond .eq 5, 3) := by decide +kernel
theorem dX6_due_10 : decode cX6_due 10 = .ok (.iload_n 2, 1) := by decide +kernel
theorem dX6_due_11 : decode cX6_due 11 = .ok (.ireturn, 1) := by decide +kernel
theorem dX6_due_12 : decode cX6_due 12 = .ok (.aload_n 0, 1) := by decide +kernel
theorem dX6_due_13 : decode cX6_due 13 = .ok (.getfield 33, 3) := by decide +kernel
theorem dX6_due_16 : decode cX6_due 16 = .ok (.iload_n 1, 1) := by decide +kernel
theorem dX6_due_17 : decode cX6_due 17 = .ok (.invokevirtual 178, 3) := by decide +kernel
theorem dX6_due_20 : decode cX6_due 20 = .ok (.istore_n 3, 1) := by decide +kernel
theorem dX6_due_21 : decode cX6_due 21 = .ok (.aload_n 0, 1) := by decide +kernel
theorem dX6_due_22 : decode cX6_due 22 = .ok (.getfield 33, 3) := by decide +kernel
theorem dX6_due_25 : decode cX6_due 25 = .ok (.iload_n 1, 1) := by decide +kernel
theorem dX6_due_26 : decode cX6_due 26 = .ok (.ldc 75, 2) := by decide +kernel
theorem dX6_due_28 : decode cX6_due 28 = .ok (.iload_n 3, 1) := by decide +kernel
theorem dX6_due_29 : decode cX6_due 29 = .ok (.invokevirtual 203, 3) := by decide +kernel
theorem dX6_due_32 : decode cX6_due 32 = .ok (.istore 4, 2) := by decide +kernel
theorem dX6_due_34 : decode cX6_due 34 = .ok (.aload_n 0, 1) := by decide +kernel
theorem dX6_due_35 : decode cX6_due 35 = .ok (.getfield 33, 3) := by decide +kernel
theorem dX6_due_38 : decode cX6_due 38 = .ok (.bipush 7, 2) := by decide +kernel
theorem dX6_due_40 : decode cX6_due 40 = .ok (.iload 4, 2) := by decide +kernel
theorem dX6_due_42 : decode cX6_due 42 = .ok (.iload_n 3, 1) := by decide +kernel
theorem dX6_due_43 : decode cX6_due 43 = .ok (.invokevirtual 227, 3) := by decide +kernel
theorem dX6_due_46 : decode cX6_due 46 = .ok (.i2l, 1) := by decide +kernel
theorem dX6_due_47 : decode cX6_due 47 = .ok (.lstore 5, 2) := by decide +kernel
theorem dX6_due_49 : decode cX6_due 49 = .ok (.aload_n 0, 1) := by decide +kernel
theorem dX6_due_50 : decode cX6_due 50 = .ok (.getfield 33, 3) := by decide +kernel
theorem dX6_due_53 : decode cX6_due 53 = .ok (.iconst 3, 1) := by decide +kernel
theorem dX6_due_54 : decode cX6_due 54 = .ok (.iload 4, 2) := by decide +kernel
theorem dX6_due_56 : decode cX6_due 56 = .ok (.iload_n 3, 1) := by decide +kernel
theorem dX6_due_57 : decode cX6_due 57 = .ok (.invokevirtual 227, 3) := by decide +kernel
theorem dX6_due_60 : decode cX6_due 60 = .ok (.i2l, 1) := by decide +kernel
theorem dX6_due_61 : decode cX6_due 61 = .ok (.lstore 7, 2) := by decide +kernel
theorem dX6_due_63 : decode cX6_due 63 = .ok (.aload_n 0, 1) := by decide +kernel
theorem dX6_due_64 : decode cX6_due 64 = .ok (.getfield 26, 3) := by decide +kernel
theorem dX6_due_67 : decode cX6_due 67 = .ok (.iload_n 1, 1) := by decide +kernel
theorem dX6_due_68 : decode cX6_due 68 = .ok (.invokevirtual 171, 3) := by decide +kernel
theorem dX6_due_71 : decode cX6_due 71 = .ok (.aload_n 0, 1) := by decide +kernel
theorem dX6_due_72 : decode cX6_due 72 = .ok (.getfield 33, 3) := by decide +kernel
theorem dX6_due_75 : decode cX6_due 75 = .ok (.iload_n 3, 1) := by decide +kernel
theorem dX6_due_76 : decode cX6_due 76 = .ok (.iconst 4, 1) := by decide +kernel
theorem dX6_due_77 : decode cX6_due 77 = .ok (.invokevirtual 210, 3) := by decide +kernel
theorem dX6_due_80 : decode cX6_due 80 = .ok (.isub, 1) := by decide +kernel
theorem dX6_due_81 : decode cX6_due 81 = .ok (.i2l, 1) := by decide +kernel
theorem dX6_due_82 : decode cX6_due 82 = .ok (.lstore 9, 2) := by decide +kernel
theorem dX6_due_84 : decode cX6_due 84 = .ok (.lload 7, 2) := by decide +kernel
theorem dX6_due_86 : decode cX6_due 86 = .ok (.lconst 0, 1) := by decide +kernel
theorem dX6_due_87 : decode cX6_due 87 = .ok (.lcmp, 1) := by decide +kernel
theorem dX6_due_88 : decode cX6_due 88 = .ok (.ifCond .ge 28, 3) := by decide +kernel
theorem dX6_due_91 : decode cX6_due 91 = .ok (.aload_n 0, 1) := by decide +kernel
theorem dX6_due_92 : decode cX6_due 92 = .ok (.getfield 33, 3) := by decide +kernel
theorem dX6_due_95 : decode cX6_due 95 = .ok (.iload_n 3, 1) := by decide +kernel
theorem dX6_due_96 : decode cX6_due 96 = .ok (.bipush 7, 2) := by decide +kernel
theorem dX6_due_98 : decode cX6_due 98 = .ok (.invokevirtual 210, 3) := by decide +kernel
theorem dX6_due_101 : decode cX6_due 101 = .ok (.i2l, 1) := by decide +kernel
theorem dX6_due_102 : decode cX6_due 102 = .ok (.lload 9, 2) := by decide +kernel
theorem dX6_due_104 : decode cX6_due 104 = .ok (.lload 5, 2) := by decide +kernel
theorem dX6_due_106 : decode cX6_due 106 = .ok (.lneg, 1) := by decide +kernel
theorem dX6_due_107 : decode cX6_due 107 = .ok (.lload 7, 2) := by decide +kernel
theorem dX6_due_109 : decode cX6_due 109 = .ok (.lneg, 1) := by decide +kernel
theorem dX6_due_110 : decode cX6_due 110 = .ok (.invokestatic 230, 3) := by decide +kernel
theorem dX6_due_113 : decode cX6_due 113 = .ok (.goto 23, 3) := by decide +kernel
theorem dX6_due_116 : decode cX6_due 116 = .ok (.aload_n 0, 1) := by decide +kernel
theorem dX6_due_117 : decode cX6_due 117 = .ok (.getfield 33, 3) := by decide +kernel
theorem dX6_due_120 : decode cX6_due 120 = .ok (.iload_n 3, 1) := by decide +kernel
theorem dX6_due_121 : decode cX6_due 121 = .ok (.bipush 7, 2) := by decide +kernel
theorem dX6_due_123 : decode cX6_due 123 = .ok (.invokevirtual 210, 3) := by decide +kernel
theorem dX6_due_126 : decode cX6_due 126 = .ok (.i2l, 1) := by decide +kernel
theorem dX6_due_127 : decode cX6_due 127 = .ok (.lload 9, 2) := by decide +kernel
theorem dX6_due_129 : decode cX6_due 129 = .ok (.lload 5, 2) := by decide +kernel
theorem dX6_due_131 : decode cX6_due 131 = .ok (.lload 7, 2) := by decide +kernel
theorem dX6_due_133 : decode cX6_due 133 = .ok (.invokestatic 230, 3) := by decide +kernel
theorem dX6_due_136 : decode cX6_due 136 = .ok (.lstore 11, 2) := by decide +kernel
theorem dX6_due_138 : decode cX6_due 138 = .ok (.aload_n 0, 1) := by decide +kernel
theorem dX6_due_139 : decode cX6_due 139 = .ok (.getfield 33, 3) := by decide +kernel
theorem dX6_due_142 : decode cX6_due 142 = .ok (.iload_n 3, 1) := by decide +kernel
theorem dX6_due_143 : decode cX6_due 143 = .ok (.iconst 3, 1) := by decide +kernel
theorem dX6_due_144 : decode cX6_due 144 = .ok (.invokevirtual 210, 3) := by decide +kernel
theorem dX6_due_147 : decode cX6_due 147 = .ok (.i2l, 1) := by decide +kernel
theorem dX6_due_148 : decode cX6_due 148 = .ok (.lload 11, 2) := by decide +kernel
theorem dX6_due_150 : decode cX6_due 150 = .ok (.ladd, 1) := by decide +kernel
theorem dX6_due_151 : decode cX6_due 151 = .ok (.ldc2_w 234, 3) := by decide +kernel
theorem dX6_due_154 : decode cX6_due 154 = .ok (.invokestatic 236, 3) := by decide +kernel
theorem dX6_due_157 : decode cX6_due 157 = .ok (.l2i, 1) := by decide +kernel
theorem dX6_due_158 : decode cX6_due 158 = .ok (.ireturn, 1) := by decide +kernel
set_option maxRecDepth 20000 in
theorem ggX6_resting_X1_has : GoodIn wsX6_resting wsX1_has := goodIn_r _ [6, 7, 8, 9, 10, 30, 31] (by decide +kernel) (by decide +kernel)
set_option maxRecDepth 20000 in
theorem gX6_resting_X1_has : GoodIn wsX6_resting (wsV RX6 209 RX1 yX1_has wsX1_has) := goodIn_app (goodIn_of _ (by decide +kernel)) ggX6_resting_X1_has
set_option maxRecDepth 20000 in
theorem ggX6_resting_X1_countOver : GoodIn wsX6_resting wsX1_countOver := goodIn_r _ [14, 7, 15, 16, 17, 5, 18, 19, 20, 3, 4, 6, 8, 9, 10, 30, 31] (by decide +kernel) (by decide +kernel)
set_option maxRecDepth 20000 in
theorem gX6_resting_X1_countOver : GoodIn wsX6_resting (wsV RX6 239 RX1 yX1_countOver wsX1_countOver) := goodIn_app (goodIn_of _ (by decide +kernel)) ggX6_resting_X1_countOver
theorem dX6_resting_0 : decode cX6_resting 0 = .ok (.aload_n 0, 1) := by decide +kernel
theorem dX6_resting_1 : decode cX6_resting 1 = .ok (.getfield 33, 3) := by decide +kernel
theorem dX6_resting_4 : decode cX6_resting 4 = .ok (.iload_n 1, 1) := by decide +kernel
theorem dX6_resting_5 : decode cX6_resting 5 = .ok (.invokevirtual 209, 3) := by decide +kernel
theorem dX6_resting_8 : decode cX6_resting 8 = .ok (.ifCond .eq 14, 3) := by decide +kernel
theorem dX6_resting_11 : decode cX6_resting 11 = .ok (.aload_n 0, 1) := by decide +kernel
theorem dX6_resting_12 : decode cX6_resting 12 = .ok (.getfield 33, 3) := by decide +kernel
theorem dX6_resting_15 : decode cX6_resting 15 = .ok (.iload_n 1, 1) := by decide +kernel
theorem dX6_resting_16 : decode cX6_resting 16 = .ok (.invokevirtual 239, 3) := by decide +kernel
theorem dX6_resting_19 : decode cX6_resting 19 = .ok (.goto 4, 3) := by decide +kernel
theorem dX6_resting_22 : decode cX6_resting 22 = .ok (.iconst (-1), 1) := by decide +kernel
theorem dX6_resting_23 : decode cX6_resting 23 = .ok (.ireturn, 1) := by decide +kernel
set_option maxRecDepth 20000 in
theorem ggX6_lab_X6_isLab : GoodIn wsX6_lab wsX6_isLab := goodIn_r _ [5, 6, 7, 4, 8] (by decide +kernel) (by decide +kernel)
set_option maxRecDepth 20000 in
theorem gX6_lab_X6_isLab : GoodIn wsX6_lab (va_wsS RX6 242 yX6_isLab wsX6_isLab) := goodIn_app (goodIn_of _ (by decide +kernel)) ggX6_lab_X6_isLab
set_option maxRecDepth 20000 in
theorem ggX6_lab_X6_isWithin : GoodIn wsX6_lab wsX6_isWithin := goodIn_r _ [11, 6, 7, 4, 8] (by decide +kernel) (by decide +kernel)
set_option maxRecDepth 20000 in
theorem gX6_lab_X6_isWithin : GoodIn wsX6_lab (va_wsS RX6 76 yX6_isWithin wsX6_isWithin) := goodIn_app (goodIn_of _ (by decide +kernel)) ggX6_lab_X6_isWithin
set_option maxRecDepth 20000 in
theorem ggX6_lab_X6_isBetween : GoodIn wsX6_lab wsX6_isBetween := goodIn_r _ [8] (by decide +kernel) (by decide +kernel)
set_option maxRecDepth 20000 in
theorem gX6_lab_X6_isBetween : GoodIn wsX6_lab (va_wsS RX6 113 yX6_isBetween wsX6_isBetween) := goodIn_app (goodIn_of _ (by decide +kernel)) ggX6_lab_X6_isBetween
set_option maxRecDepth 20000 in
theorem ggX6_lab_X3_put : GoodIn wsX6_lab wsX3_put := goodIn_r _ [16, 17, 18, 28, 29] (by decide +kernel) (by decide +kernel)
set_option maxRecDepth 20000 in
theorem gX6_lab_X3_put : GoodIn wsX6_lab (wsV RX6 245 RX3 yX3_put wsX3_put) := goodIn_app (goodIn_of _ (by decide +kernel)) ggX6_lab_X3_put
theorem dX6_lab_0 : decode cX6_lab 0 = .ok (.iload_n 1, 1) := by decide +kernel
theorem dX6_lab_1 : decode cX6_lab 1 = .ok (.invokestatic 242, 3) := by decide +kernel
theorem dX6_lab_4 : decode cX6_lab 4 = .ok (.ifCond .eq 37, 3) := by decide +kernel
theorem dX6_lab_7 : decode cX6_lab 7 = .ok (.iload_n 2, 1) := by decide +kernel
theorem dX6_lab_8 : decode cX6_lab 8 = .ok (.invokestatic 242, 3) := by decide +kernel
theorem dX6_lab_11 : decode cX6_lab 11 = .ok (.ifCond .eq 30, 3) := by decide +kernel
theorem dX6_lab_14 : decode cX6_lab 14 = .ok (.iload_n 1, 1) := by decide +kernel
theorem dX6_lab_15 : decode cX6_lab 15 = .ok (.iload_n 2, 1) := by decide +kernel
theorem dX6_lab_16 : decode cX6_lab 16 = .ok (.if_icmp .eq 25, 3) := by decide +kernel
theorem dX6_lab_19 : decode cX6_lab 19 = .ok (.iload_n 3, 1) := by decide +kernel
theorem dX6_lab_20 : decode cX6_lab 20 = .ok (.sipush 10000, 3) := by decide +kernel
theorem dX6_lab_23 : decode cX6_lab 23 = .ok (.invokestatic 76, 3) := by decide +kernel
theorem dX6_lab_26 : decode cX6_lab 26 = .ok (.ifCond .eq 15, 3) := by decide +kernel
theorem dX6_lab_29 : decode cX6_lab 29 = .ok (.iload 4, 2) := by decide +kernel
theorem dX6_lab_31 : decode cX6_lab 31 = .ok (.iconst 0, 1) := by decide +kernel
theorem dX6_lab_32 : decode cX6_lab 32 = .ok (.sipush 10000, 3) := by decide +kernel
theorem dX6_lab_35 : decode cX6_lab 35 = .ok (.invokestatic 113, 3) := by decide +kernel
theorem dX6_lab_38 : decode cX6_lab 38 = .ok (.ifCond .ne 5, 3) := by decide +kernel
theorem dX6_lab_41 : decode cX6_lab 41 = .ok (.iconst (-1), 1) := by decide +kernel
theorem dX6_lab_42 : decode cX6_lab 42 = .ok (.ireturn, 1) := by decide +kernel
theorem dX6_lab_43 : decode cX6_lab 43 = .ok (.aload_n 0, 1) := by decide +kernel
theorem dX6_lab_44 : decode cX6_lab 44 = .ok (.getfield 40, 3) := by decide +kernel
theorem dX6_lab_47 : decode cX6_lab 47 = .ok (.iload_n 1, 1) := by decide +kernel
theorem dX6_lab_48 : decode cX6_lab 48 = .ok (.iload_n 2, 1) := by decide +kernel
theorem dX6_lab_49 : decode cX6_lab 49 = .ok (.iload_n 3, 1) := by decide +kernel
theorem dX6_lab_50 : decode cX6_lab 50 = .ok (.iload 4, 2) := by decide +kernel
theorem dX6_lab_52 : decode cX6_lab 52 = .ok (.invokevirtual 245, 3) := by decide +kernel
theorem dX6_lab_55 : decode cX6_lab 55 = .ok (.iconst 1, 1) := by decide +kernel
theorem dX6_lab_56 : decode cX6_lab 56 = .ok (.ireturn, 1) := by decide +kernel
set_option maxRecDepth 20000 in
theorem ggX6_closes_X6_isLab : GoodIn wsX6_closes wsX6_isLab := goodIn_r _ [6, 7, 8, 5, 9] (by decide +kernel) (by decide +kernel)
set_option maxRecDepth 20000 in
theorem gX6_closes_X6_isLab : GoodIn wsX6_closes (va_wsS RX6 242 yX6_isLab wsX6_isLab) := goodIn_app (goodIn_of _ (by decide +kernel)) ggX6_closes_X6_isLab
set_option maxRecDepth 20000 in
theorem ggX6_closes_X3_isKnown : GoodIn wsX6_closes wsX3_isKnown := goodIn_r _ [14, 15, 39, 40] (by decide +kernel) (by decide +kernel)
set_option maxRecDepth 20000 in
theorem gX6_closes_X3_isKnown : GoodIn wsX6_closes (wsV RX6 248 RX3 yX3_isKnown wsX3_isKnown) := goodIn_app (goodIn_of _ (by decide +kernel)) ggX6_closes_X3_isKnown
set_option maxRecDepth 20000 in
theorem ggX6_closes_X3_gap : GoodIn wsX6_closes wsX3_gap := goodIn_r _ [19, 20, 39, 40] (by decide +kernel) (by decide +kernel)
set_option maxRecDepth 20000 in
theorem gX6_closes_X3_gap : GoodIn wsX6_closes (wsV RX6 251 RX3 yX3_gap wsX3_gap) := goodIn_app (goodIn_of _ (by decide +kernel)) ggX6_closes_X3_gap
set_option maxRecDepth 20000 in
theorem ggX6_closes_X3_isShut : GoodIn wsX6_closes wsX3_isShut := goodIn_r _ [24, 25, 26, 27, 28, 15, 29, 17, 18, 13, 19, 20, 39, 40] (by decide +kernel) (by decide +kernel)
set_option maxRecDepth 20000 in
theorem gX6_closes_X3_isShut : GoodIn wsX6_closes (wsV RX6 254 RX3 yX3_isShut wsX3_isShut) := goodIn_app (goodIn_of _ (by decide +kernel)) ggX6_closes_X3_isShut
theorem dX6_closes_0 : decode cX6_closes 0 = .ok (.iload_n 1, 1) := by decide +kernel
theorem dX6_closes_1 : decode cX6_closes 1 = .ok (.invokestatic 242, 3) := by decide +kernel
theorem dX6_closes_4 : decode cX6_closes 4 = .ok (.ifCond .eq 32, 3) := by decide +kernel
theorem dX6_closes_7 : decode cX6_closes 7 = .ok (.iload_n 2, 1) := by decide +kernel
theorem dX6_closes_8 : decode cX6_closes 8 = .ok (.invokestatic 242, 3) := by decide +kernel
theorem dX6_closes_11 : decode cX6_closes 11 = .ok (.ifCond .eq 25, 3) := by decide +kernel
theorem dX6_closes_14 : decode cX6_closes 14 = .ok (.iload_n 3, 1) := by decide +kernel
theorem dX6_closes_15 : decode cX6_closes 15 = .ok (.invokestatic 242, 3) := by decide +kernel
theorem dX6_closes_18 : decode cX6_closes 18 = .ok (.ifCond .eq 18, 3) := by decide +kernel
theorem dX6_closes_21 : decode cX6_closes 21 = .ok (.iload_n 1, 1) := by decide +kernel
theorem dX6_closes_22 : decode cX6_closes 22 = .ok (.iload_n 2, 1) := by decide +kernel
theorem dX6_closes_23 : decode cX6_closes 23 = .ok (.if_icmp .eq 13, 3) := by decide +kernel
theorem dX6_closes_26 : decode cX6_closes 26 = .ok (.iload_n 2, 1) := by decide +kernel
theorem dX6_closes_27 : decode cX6_closes 27 = .ok (.iload_n 3, 1) := by decide +kernel
theorem dX6_closes_28 : decode cX6_closes 28 = .ok (.if_icmp .eq 8, 3) := by decide +kernel
theorem dX6_closes_31 : decode cX6_closes 31 = .ok (.iload_n 3, 1) := by decide +kernel
theorem dX6_closes_32 : decode cX6_closes 32 = .ok (.iload_n 1, 1) := by decide +kernel
theorem dX6_closes_33 : decode cX6_closes 33 = .ok (.if_icmp .ne 5, 3) := by decide +kernel
theorem dX6_closes_36 : decode cX6_closes 36 = .ok (.iconst (-1), 1) := by decide +kernel
theorem dX6_closes_37 : decode cX6_closes 37 = .ok (.ireturn, 1) := by decide +kernel
theorem dX6_closes_38 : decode cX6_closes 38 = .ok (.aload_n 0, 1) := by decide +kernel
theorem dX6_closes_39 : decode cX6_closes 39 = .ok (.getfield 40, 3) := by decide +kernel
theorem dX6_closes_42 : decode cX6_closes 42 = .ok (.iload_n 1, 1) := by decide +kernel
theorem dX6_closes_43 : decode cX6_closes 43 = .ok (.iload_n 2, 1) := by decide +kernel
theorem dX6_closes_44 : decode cX6_closes 44 = .ok (.iload_n 3, 1) := by decide +kernel
theorem dX6_closes_45 : decode cX6_closes 45 = .ok (.invokevirtual 248, 3) := by decide +kernel
theorem dX6_closes_48 : decode cX6_closes 48 = .ok (.ifCond .ne 6, 3) := by decide +kernel
theorem dX6_closes_51 : decode cX6_closes 51 = .ok (.bipush (-4), 2) := by decide +kernel
theorem dX6_closes_53 : decode cX6_closes 53 = .ok (.ireturn, 1) := by decide +kernel
theorem dX6_closes_54 : decode cX6_closes 54 = .ok (.aload_n 0, 1) := by decide +kernel
theorem dX6_closes_55 : decode cX6_closes 55 = .ok (.aload_n 0, 1) := by decide +kernel
theorem dX6_closes_56 : decode cX6_closes 56 = .ok (.getfield 40, 3) := by decide +kernel
theorem dX6_closes_59 : decode cX6_closes 59 = .ok (.iload_n 1, 1) := by decide +kernel
theorem dX6_closes_60 : decode cX6_closes 60 = .ok (.iload_n 2, 1) := by decide +kernel
theorem dX6_closes_61 : decode cX6_closes 61 = .ok (.iload_n 3, 1) := by decide +kernel
theorem dX6_closes_62 : decode cX6_closes 62 = .ok (.invokevirtual 251, 3) := by decide +kernel
theorem dX6_closes_65 : decode cX6_closes 65 = .ok (.i2l, 1) := by decide +kernel
theorem dX6_closes_66 : decode cX6_closes 66 = .ok (.putfield 59, 3) := by decide +kernel
theorem dX6_closes_69 : decode cX6_closes 69 = .ok (.aload_n 0, 1) := by decide +kernel
theorem dX6_closes_70 : decode cX6_closes 70 = .ok (.getfield 40, 3) := by decide +kernel
theorem dX6_closes_73 : decode cX6_closes 73 = .ok (.iload_n 1, 1) := by decide +kernel
theorem dX6_closes_74 : decode cX6_closes 74 = .ok (.iload_n 2, 1) := by decide +kernel
theorem dX6_closes_75 : decode cX6_closes 75 = .ok (.iload_n 3, 1) := by decide +kernel
theorem dX6_closes_76 : decode cX6_closes 76 = .ok (.invokevirtual 254, 3) := by decide +kernel
theorem dX6_closes_79 : decode cX6_closes 79 = .ok (.ifCond .eq 7, 3) := by decide +kernel
theorem dX6_closes_82 : decode cX6_closes 82 = .ok (.iconst 1, 1) := by decide +kernel
theorem dX6_closes_83 : decode cX6_closes 83 = .ok (.goto 4, 3) := by decide +kernel
theorem dX6_closes_86 : decode cX6_closes 86 = .ok (.iconst 0, 1) := by decide +kernel
theorem dX6_closes_87 : decode cX6_closes 87 = .ok (.ireturn, 1) := by decide +kernel
set_option maxRecDepth 20000 in
theorem ggX6_open_X3_isKnown : GoodIn wsX6_open wsX3_isKnown := goodIn_r _ [6, 7, 30, 31] (by decide +kernel) (by decide +kernel)
set_option maxRecDepth 20000 in
theorem gX6_open_X3_isKnown : GoodIn wsX6_open (wsV RX6 248 RX3 yX3_isKnown wsX3_isKnown) := goodIn_app (goodIn_of _ (by decide +kernel)) ggX6_open_X3_isKnown
set_option maxRecDepth 20000 in
theorem ggX6_open_X3_isShut : GoodIn wsX6_open wsX3_isShut := goodIn_r _ [11, 12, 13, 14, 15, 7, 16, 17, 18, 5, 19, 20, 30, 31] (by decide +kernel) (by decide +kernel)
set_option maxRecDepth 20000 in
theorem gX6_open_X3_isShut : GoodIn wsX6_open (wsV RX6 254 RX3 yX3_isShut wsX3_isShut) := goodIn_app (goodIn_of _ (by decide +kernel)) ggX6_open_X3_isShut
theorem dX6_open_0 : decode cX6_open 0 = .ok (.iconst 0, 1) := by decide +kernel
theorem dX6_open_1 : decode cX6_open 1 = .ok (.istore_n 1, 1) := by decide +kernel
theorem dX6_open_2 : decode cX6_open 2 = .ok (.iconst 0, 1) := by decide +kernel
theorem dX6_open_3 : decode cX6_open 3 = .ok (.istore_n 2, 1) := by decide +kernel
theorem dX6_open_4 : decode cX6_open 4 = .ok (.iload_n 2, 1) := by decide +kernel
theorem dX6_open_5 : decode cX6_open 5 = .ok (.bipush 6, 2) := by decide +kernel
theorem dX6_open_7 : decode cX6_open 7 = .ok (.if_icmp .ge 74, 3) := by decide +kernel
theorem dX6_open_10 : decode cX6_open 10 = .ok (.iload_n 2, 1) := by decide +kernel
theorem dX6_open_11 : decode cX6_open 11 = .ok (.iconst 1, 1) := by decide +kernel
theorem dX6_open_12 : decode cX6_open 12 = .ok (.iadd, 1) := by decide +kernel
theorem dX6_open_13 : decode cX6_open 13 = .ok (.istore_n 3, 1) := by decide +kernel
theorem dX6_open_14 : decode cX6_open 14 = .ok (.iload_n 3, 1) := by decide +kernel
theorem dX6_open_15 : decode cX6_open 15 = .ok (.bipush 6, 2) := by decide +kernel
theorem dX6_open_17 : decode cX6_open 17 = .ok (.if_icmp .ge 58, 3) := by decide +kernel
theorem dX6_open_20 : decode cX6_open 20 = .ok (.iload_n 3, 1) := by decide +kernel
theorem dX6_open_21 : decode cX6_open 21 = .ok (.iconst 1, 1) := by decide +kernel
theorem dX6_open_22 : decode cX6_open 22 = .ok (.iadd, 1) := by decide +kernel
theorem dX6_open_23 : decode cX6_open 23 = .ok (.istore 4, 2) := by decide +kernel
theorem dX6_open_25 : decode cX6_open 25 = .ok (.iload 4, 2) := by decide +kernel
theorem dX6_open_27 : decode cX6_open 27 = .ok (.bipush 6, 2) := by decide +kernel
theorem dX6_open_29 : decode cX6_open 29 = .ok (.if_icmp .ge 40, 3) := by decide +kernel
theorem dX6_open_32 : decode cX6_open 32 = .ok (.aload_n 0, 1) := by decide +kernel
theorem dX6_open_33 : decode cX6_open 33 = .ok (.getfield 40, 3) := by decide +kernel
theorem dX6_open_36 : decode cX6_open 36 = .ok (.iload_n 2, 1) := by decide +kernel
theorem dX6_open_37 : decode cX6_open 37 = .ok (.iload_n 3, 1) := by decide +kernel
theorem dX6_open_38 : decode cX6_open 38 = .ok (.iload 4, 2) := by decide +kernel
theorem dX6_open_40 : decode cX6_open 40 = .ok (.invokevirtual 248, 3) := by decide +kernel
theorem dX6_open_43 : decode cX6_open 43 = .ok (.ifCond .eq 20, 3) := by decide +kernel
theorem dX6_open_46 : decode cX6_open 46 = .ok (.aload_n 0, 1) := by decide +kernel
theorem dX6_open_47 : decode cX6_open 47 = .ok (.getfield 40, 3) := by decide +kernel
theorem dX6_open_50 : decode cX6_open 50 = .ok (.iload_n 2, 1) := by decide +kernel
theorem dX6_open_51 : decode cX6_open 51 = .ok (.iload_n 3, 1) := by decide +kernel
theorem dX6_open_52 : decode cX6_open 52 = .ok (.iload 4, 2) := by decide +kernel
theorem dX6_open_54 : decode cX6_open 54 = .ok (.invokevirtual 254, 3) := by decide +kernel
theorem dX6_open_57 : decode cX6_open 57 = .ok (.ifCond .ne 6, 3) := by decide +kernel
theorem dX6_open_60 : decode cX6_open 60 = .ok (.iinc 1 1, 3) := by decide +kernel
theorem dX6_open_63 : decode cX6_open 63 = .ok (.iinc 4 1, 3) := by decide +kernel
theorem dX6_open_66 : decode cX6_open 66 = .ok (.goto (-41), 3) := by decide +kernel
theorem dX6_open_69 : decode cX6_open 69 = .ok (.iinc 3 1, 3) := by decide +kernel
theorem dX6_open_72 : decode cX6_open 72 = .ok (.goto (-58), 3) := by decide +kernel
theorem dX6_open_75 : decode cX6_open 75 = .ok (.iinc 2 1, 3) := by decide +kernel
theorem dX6_open_78 : decode cX6_open 78 = .ok (.goto (-74), 3) := by decide +kernel
theorem dX6_open_81 : decode cX6_open 81 = .ok (.iload_n 1, 1) := by decide +kernel
theorem dX6_open_82 : decode cX6_open 82 = .ok (.ireturn, 1) := by decide +kernel
theorem dX6_asked_0 : decode cX6_asked 0 = .ok (.aload_n 0, 1) := by decide +kernel
theorem dX6_asked_1 : decode cX6_asked 1 = .ok (.getfield 59, 3) := by decide +kernel
theorem dX6_asked_4 : decode cX6_asked 4 = .ok (.lreturn, 1) := by decide +kernel
theorem dX6_upper_0 : decode cX6_upper 0 = .ok (.aload_n 0, 1) := by decide +kernel
theorem dX6_upper_1 : decode cX6_upper 1 = .ok (.getfield 47, 3) := by decide +kernel
theorem dX6_upper_4 : decode cX6_upper 4 = .ok (.getfield 257, 3) := by decide +kernel
theorem dX6_upper_7 : decode cX6_upper 7 = .ok (.lreturn, 1) := by decide +kernel
theorem dX6_lower_0 : decode cX6_lower 0 = .ok (.aload_n 0, 1) := by decide +kernel
theorem dX6_lower_1 : decode cX6_lower 1 = .ok (.getfield 47, 3) := by decide +kernel
theorem dX6_lower_4 : decode cX6_lower 4 = .ok (.getfield 260, 3) := by decide +kernel
theorem dX6_lower_7 : decode cX6_lower 7 = .ok (.lreturn, 1) := by decide +kernel
set_option maxRecDepth 20000 in
theorem ggX6_count_X4_presentCount : GoodIn wsX6_count wsX4_presentCount := goodIn_r _ [9, 10, 43, 44] (by decide +kernel) (by decide +kernel)
set_option maxRecDepth 20000 in
theorem gX6_count_X4_presentCount : GoodIn wsX6_count (wsV RX6 263 RX4 yX4_presentCount wsX4_presentCount) := goodIn_app (goodIn_of _ (by decide +kernel)) ggX6_count_X4_presentCount
set_option maxRecDepth 20000 in
theorem ggX6_count_X5_pointCount : GoodIn wsX6_count wsX5_pointCount := goodIn_r _ [15, 16, 45, 46, 47] (by decide +kernel) (by decide +kernel)
set_option maxRecDepth 20000 in
theorem gX6_count_X5_pointCount : GoodIn wsX6_count (wsV RX6 266 RX5 yX5_pointCount wsX5_pointCount) := goodIn_app (goodIn_of _ (by decide +kernel)) ggX6_count_X5_pointCount
set_option maxRecDepth 20000 in
theorem ggX6_count_X0_size : GoodIn wsX6_count wsX0_size := goodIn_r _ [21, 22, 48, 49, 50] (by decide +kernel) (by decide +kernel)
set_option maxRecDepth 20000 in
theorem gX6_count_X0_size : GoodIn wsX6_count (wsV RX6 159 RX0 yX0_size wsX0_size) := goodIn_app (goodIn_of _ (by decide +kernel)) ggX6_count_X0_size
set_option maxRecDepth 20000 in
theorem ggX6_count_X1_size : GoodIn wsX6_count wsX1_size := goodIn_r _ [27, 28, 51, 52] (by decide +kernel) (by decide +kernel)
set_option maxRecDepth 20000 in
theorem gX6_count_X1_size : GoodIn wsX6_count (wsV RX6 202 RX1 yX1_size wsX1_size) := goodIn_app (goodIn_of _ (by decide +kernel)) ggX6_count_X1_size
set_option maxRecDepth 20000 in
theorem ggX6_count_X1_countOf : GoodIn wsX6_count wsX1_countOf := goodIn_r _ [32, 28, 33, 51, 52] (by decide +kernel) (by decide +kernel)
set_option maxRecDepth 20000 in
theorem gX6_count_X1_countOf : GoodIn wsX6_count (wsV RX6 174 RX1 yX1_countOf wsX1_countOf) := goodIn_app (goodIn_of _ (by decide +kernel)) ggX6_count_X1_countOf
theorem dX6_count_0 : decode cX6_count 0 = .ok (.iload_n 1, 1) := by decide +kernel
theorem dX6_count_1 : decode cX6_count 1 = .ok (.tableswitch 78 0 4 #[35, 43, 51, 59, 67], 35) := by decide +kernel
theorem dX6_count_36 : decode cX6_count 36 = .ok (.aload_n 0, 1) := by decide +kernel
theorem dX6_count_37 : decode cX6_count 37 = .ok (.getfield 10, 3) := by decide +kernel
theorem dX6_count_40 : decode cX6_count 40 = .ok (.invokevirtual 263, 3) := by decide +kernel
theorem dX6_count_43 : decode cX6_count 43 = .ok (.ireturn, 1) := by decide +kernel
theorem dX6_count_44 : decode cX6_count 44 = .ok (.aload_n 0, 1) := by decide +kernel
theorem dX6_count_45 : decode cX6_count 45 = .ok (.getfield 19, 3) := by decide +kernel
theorem dX6_count_48 : decode cX6_count 48 = .ok (.invokevirtual 266, 3) := by decide +kernel
theorem dX6_count_51 : decode cX6_count 51 = .ok (.ireturn, 1) := by decide +kernel
theorem dX6_count_52 : decode cX6_count 52 = .ok (.aload_n 0, 1) := by decide +kernel
theorem dX6_count_53 : decode cX6_count 53 = .ok (.getfield 26, 3) := by decide +kernel
theorem dX6_count_56 : decode cX6_count 56 = .ok (.invokevirtual 159, 3) := by decide +kernel
theorem dX6_count_59 : decode cX6_count 59 = .ok (.ireturn, 1) := by decide +kernel
theorem dX6_count_60 : decode cX6_count 60 = .ok (.aload_n 0, 1) := by decide +kernel
theorem dX6_count_61 : decode cX6_count 61 = .ok (.getfield 33, 3) := by decide +kernel
theorem dX6_count_64 : decode cX6_count 64 = .ok (.invokevirtual 202, 3) := by decide +kernel
theorem dX6_count_67 : decode cX6_count 67 = .ok (.ireturn, 1) := by decide +kernel
theorem dX6_count_68 : decode cX6_count 68 = .ok (.aload_n 0, 1) := by decide +kernel
theorem dX6_count_69 : decode cX6_count 69 = .ok (.getfield 33, 3) := by decide +kernel
theorem dX6_count_72 : decode cX6_count 72 = .ok (.iconst 5, 1) := by decide +kernel
theorem dX6_count_73 : decode cX6_count 73 = .ok (.iconst 1, 1) := by decide +kernel
theorem dX6_count_74 : decode cX6_count 74 = .ok (.iconst 0, 1) := by decide +kernel
theorem dX6_count_75 : decode cX6_count 75 = .ok (.invokevirtual 174, 3) := by decide +kernel
theorem dX6_count_78 : decode cX6_count 78 = .ok (.ireturn, 1) := by decide +kernel
theorem dX6_count_79 : decode cX6_count 79 = .ok (.iconst (-1), 1) := by decide +kernel
theorem dX6_count_80 : decode cX6_count 80 = .ok (.ireturn, 1) := by decide +kernel
theorem dX6_finding_0 : decode cX6_finding 0 = .ok (.aload_n 0, 1) := by decide +kernel
theorem dX6_finding_1 : decode cX6_finding 1 = .ok (.getfield 55, 3) := by decide +kernel
theorem dX6_finding_4 : decode cX6_finding 4 = .ok (.ireturn, 1) := by decide +kernel
set_option maxRecDepth 20000 in
theorem ggX6_findings_X6_isBetween : GoodIn wsX6_findings wsX6_isBetween := goodIn_r _ [5] (by decide +kernel) (by decide +kernel)
set_option maxRecDepth 20000 in
theorem gX6_findings_X6_isBetween : GoodIn wsX6_findings (va_wsS RX6 113 yX6_isBetween wsX6_isBetween) := goodIn_app (goodIn_of _ (by decide +kernel)) ggX6_findings_X6_isBetween
theorem dX6_findings_0 : decode cX6_findings 0 = .ok (.iload_n 1, 1) := by decide +kernel
theorem dX6_findings_1 : decode cX6_findings 1 = .ok (.iconst 1, 1) := by decide +kernel
theorem dX6_findings_2 : decode cX6_findings 2 = .ok (.iconst 5, 1) := by decide +kernel
theorem dX6_findings_3 : decode cX6_findings 3 = .ok (.invokestatic 113, 3) := by decide +kernel
theorem dX6_findings_6 : decode cX6_findings 6 = .ok (.ifCond .eq 12, 3) := by decide +kernel
theorem dX6_findings_9 : decode cX6_findings 9 = .ok (.aload_n 0, 1) := by decide +kernel
theorem dX6_findings_10 : decode cX6_findings 10 = .ok (.getfield 51, 3) := by decide +kernel
theorem dX6_findings_13 : decode cX6_findings 13 = .ok (.iload_n 1, 1) := by decide +kernel
theorem dX6_findings_14 : decode cX6_findings 14 = .ok (.iaload, 1) := by decide +kernel
theorem dX6_findings_15 : decode cX6_findings 15 = .ok (.goto 4, 3) := by decide +kernel
theorem dX6_findings_18 : decode cX6_findings 18 = .ok (.iconst (-1), 1) := by decide +kernel
theorem dX6_findings_19 : decode cX6_findings 19 = .ok (.ireturn, 1) := by decide +kernel
set_option maxRecDepth 20000 in
theorem ggX6_digest_X6_count : GoodIn wsX6_digest wsX6_count := goodIn_r _ [10, 5, 11, 3, 4, 12, 13, 14, 15, 16, 17, 18, 19, 20, 21, 22, 23, 24, 25, 26, 27, 28, 29, 30, 31, 32, 33, 34, 35, 36, 37, 38, 39, 40, 84, 85, 86, 87, 88, 89, 90, 91, 92, 93, 94, 95, 96, 97, 98, 99, 100, 101, 102] (by decide +kernel) (by decide +kernel)
set_option maxRecDepth 20000 in
theorem gX6_digest_X6_count : GoodIn wsX6_digest (wsV RX6 273 RX6 yX6_count wsX6_count) := goodIn_app (goodIn_of _ (by decide +kernel)) ggX6_digest_X6_count
set_option maxRecDepth 20000 in
theorem ggX6_digest_X0_size : GoodIn wsX6_digest wsX0_size := goodIn_r _ [28, 29, 98, 99, 100] (by decide +kernel) (by decide +kernel)
set_option maxRecDepth 20000 in
theorem gX6_digest_X0_size : GoodIn wsX6_digest (wsV RX6 159 RX0 yX0_size wsX0_size) := goodIn_app (goodIn_of _ (by decide +kernel)) ggX6_digest_X0_size
set_option maxRecDepth 20000 in
theorem ggX6_digest_X6_told : GoodIn wsX6_digest wsX6_told := goodIn_r _ [44, 3, 4, 45, 46, 47, 27, 48, 29, 49, 9, 50, 51, 52, 53, 54, 55, 56, 57, 58, 59, 60, 36, 37, 38, 33, 39, 35, 40, 61, 62, 63, 64, 65, 66, 67, 68, 69, 70, 71, 72, 73, 84, 85, 86, 87, 88, 89, 90, 91, 92, 98, 99, 100, 101, 102] (by decide +kernel) (by decide +kernel)
set_option maxRecDepth 20000 in
theorem gX6_digest_X6_told : GoodIn wsX6_digest (wsV RX6 276 RX6 yX6_told wsX6_told) := goodIn_app (goodIn_of _ (by decide +kernel)) ggX6_digest_X6_told
set_option maxRecDepth 20000 in
theorem ggX6_digest_X1_size : GoodIn wsX6_digest wsX1_size := goodIn_r _ [34, 35, 101, 102] (by decide +kernel) (by decide +kernel)
set_option maxRecDepth 20000 in
theorem gX6_digest_X1_size : GoodIn wsX6_digest (wsV RX6 202 RX1 yX1_size wsX1_size) := goodIn_app (goodIn_of _ (by decide +kernel)) ggX6_digest_X1_size
set_option maxRecDepth 20000 in
theorem ggX6_digest_X1_fact : GoodIn wsX6_digest wsX1_fact := goodIn_r _ [77, 40, 101, 102] (by decide +kernel) (by decide +kernel)
set_option maxRecDepth 20000 in
theorem gX6_digest_X1_fact : GoodIn wsX6_digest (wsV RX6 210 RX1 yX1_fact wsX1_fact) := goodIn_app (goodIn_of _ (by decide +kernel)) ggX6_digest_X1_fact
set_option maxRecDepth 20000 in
theorem ggX6_digest_X4_digestOn : GoodIn wsX6_digest wsX4_digestOn := goodIn_r _ [81, 82, 17, 83, 93, 94] (by decide +kernel) (by decide +kernel)
set_option maxRecDepth 20000 in
theorem gX6_digest_X4_digestOn : GoodIn wsX6_digest (wsV RX6 279 RX4 yX4_digestOn wsX4_digestOn) := goodIn_app (goodIn_of _ (by decide +kernel)) ggX6_digest_X4_digestOn
theorem dX6_digest_0 : decode cX6_digest 0 = .ok (.ldc2_w 269, 3) := by decide +kernel
theorem dX6_digest_3 : decode cX6_digest 3 = .ok (.lstore_n 1, 1) := by decide +kernel
theorem dX6_digest_4 : decode cX6_digest 4 = .ok (.iconst 0, 1) := by decide +kernel
theorem dX6_digest_5 : decode cX6_digest 5 = .ok (.istore_n 3, 1) := by decide +kernel
theorem dX6_digest_6 : decode cX6_digest 6 = .ok (.iload_n 3, 1) := by decide +kernel
theorem dX6_digest_7 : decode cX6_digest 7 = .ok (.iconst 5, 1) := by decide +kernel
theorem dX6_digest_8 : decode cX6_digest 8 = .ok (.if_icmp .ge 22, 3) := by decide +kernel
theorem dX6_digest_11 : decode cX6_digest 11 = .ok (.ldc2_w 271, 3) := by decide +kernel
theorem dX6_digest_14 : decode cX6_digest 14 = .ok (.lload_n 1, 1) := by decide +kernel
theorem dX6_digest_15 : decode cX6_digest 15 = .ok (.lmul, 1) := by decide +kernel
theorem dX6_digest_16 : decode cX6_digest 16 = .ok (.aload_n 0, 1) := by decide +kernel
theorem dX6_digest_17 : decode cX6_digest 17 = .ok (.iload_n 3, 1) := by decide +kernel
theorem dX6_digest_18 : decode cX6_digest 18 = .ok (.invokevirtual 273, 3) := by decide +kernel
theorem dX6_digest_21 : decode cX6_digest 21 = .ok (.i2l, 1) := by decide +kernel
theorem dX6_digest_22 : decode cX6_digest 22 = .ok (.ladd, 1) := by decide +kernel
theorem dX6_digest_23 : decode cX6_digest 23 = .ok (.lstore_n 1, 1) := by decide +kernel
theorem dX6_digest_24 : decode cX6_digest 24 = .ok (.iinc 3 1, 3) := by decide +kernel
theorem dX6_digest_27 : decode cX6_digest 27 = .ok (.goto (-21), 3) := by decide +kernel
theorem dX6_digest_30 : decode cX6_digest 30 = .ok (.iconst 0, 1) := by decide +kernel
theorem dX6_digest_31 : decode cX6_digest 31 = .ok (.istore_n 3, 1) := by decide +kernel
theorem dX6_digest_32 : decode cX6_digest 32 = .ok (.iload_n 3, 1) := by decide +kernel
theorem dX6_digest_33 : decode cX6_digest 33 = .ok (.aload_n 0, 1) := by decide +kernel
theorem dX6_digest_34 : decode cX6_digest 34 = .ok (.getfield 26, 3) := by decide +kernel
theorem dX6_digest_37 : decode cX6_digest 37 = .ok (.invokevirtual 159, 3) := by decide +kernel
theorem dX6_digest_40 : decode cX6_digest 40 = .ok (.if_icmp .ge 39, 3) := by decide +kernel
theorem dX6_digest_43 : decode cX6_digest 43 = .ok (.iconst 0, 1) := by decide +kernel
theorem dX6_digest_44 : decode cX6_digest 44 = .ok (.istore 4, 2) := by decide +kernel
theorem dX6_digest_46 : decode cX6_digest 46 = .ok (.iload 4, 2) := by decide +kernel
theorem dX6_digest_48 : decode cX6_digest 48 = .ok (.iconst 5, 1) := by decide +kernel
theorem dX6_digest_49 : decode cX6_digest 49 = .ok (.if_icmp .ge 24, 3) := by decide +kernel
theorem dX6_digest_52 : decode cX6_digest 52 = .ok (.ldc2_w 271, 3) := by decide +kernel
theorem dX6_digest_55 : decode cX6_digest 55 = .ok (.lload_n 1, 1) := by decide +kernel
theorem dX6_digest_56 : decode cX6_digest 56 = .ok (.lmul, 1) := by decide +kernel
theorem dX6_digest_57 : decode cX6_digest 57 = .ok (.aload_n 0, 1) := by decide +kernel
theorem dX6_digest_58 : decode cX6_digest 58 = .ok (.iload_n 3, 1) := by decide +kernel
theorem dX6_digest_59 : decode cX6_digest 59 = .ok (.iload 4, 2) := by decide +kernel
theorem dX6_digest_61 : decode cX6_digest 61 = .ok (.invokevirtual 276, 3) := by decide +kernel
theorem dX6_digest_64 : decode cX6_digest 64 = .ok (.i2l, 1) := by decide +kernel
theorem dX6_digest_65 : decode cX6_digest 65 = .ok (.ladd, 1) := by decide +kernel
theorem dX6_digest_66 : decode cX6_digest 66 = .ok (.lstore_n 1, 1) := by decide +kernel
theorem dX6_digest_67 : decode cX6_digest 67 = .ok (.iinc 4 1, 3) := by decide +kernel
theorem dX6_digest_70 : decode cX6_digest 70 = .ok (.goto (-24), 3) := by decide +kernel
theorem dX6_digest_73 : decode cX6_digest 73 = .ok (.iinc 3 1, 3) := by decide +kernel
theorem dX6_digest_76 : decode cX6_digest 76 = .ok (.goto (-44), 3) := by decide +kernel
theorem dX6_digest_79 : decode cX6_digest 79 = .ok (.iconst 0, 1) := by decide +kernel
theorem dX6_digest_80 : decode cX6_digest 80 = .ok (.istore_n 3, 1) := by decide +kernel
theorem dX6_digest_81 : decode cX6_digest 81 = .ok (.iload_n 3, 1) := by decide +kernel
theorem dX6_digest_82 : decode cX6_digest 82 = .ok (.aload_n 0, 1) := by decide +kernel
theorem dX6_digest_83 : decode cX6_digest 83 = .ok (.getfield 33, 3) := by decide +kernel
theorem dX6_digest_86 : decode cX6_digest 86 = .ok (.invokevirtual 202, 3) := by decide +kernel
theorem dX6_digest_89 : decode cX6_digest 89 = .ok (.if_icmp .ge 61, 3) := by decide +kernel
theorem dX6_digest_92 : decode cX6_digest 92 = .ok (.iconst 0, 1) := by decide +kernel
theorem dX6_digest_93 : decode cX6_digest 93 = .ok (.istore 4, 2) := by decide +kernel
theorem dX6_digest_95 : decode cX6_digest 95 = .ok (.iload 4, 2) := by decide +kernel
theorem dX6_digest_97 : decode cX6_digest 97 = .ok (.bipush 7, 2) := by decide +kernel
theorem dX6_digest_99 : decode cX6_digest 99 = .ok (.if_icmp .ge 27, 3) := by decide +kernel
theorem dX6_digest_102 : decode cX6_digest 102 = .ok (.ldc2_w 271, 3) := by decide +kernel
theorem dX6_digest_105 : decode cX6_digest 105 = .ok (.lload_n 1, 1) := by decide +kernel
theorem dX6_digest_106 : decode cX6_digest 106 = .ok (.lmul, 1) := by decide +kernel
theorem dX6_digest_107 : decode cX6_digest 107 = .ok (.aload_n 0, 1) := by decide +kernel
theorem dX6_digest_108 : decode cX6_digest 108 = .ok (.getfield 33, 3) := by decide +kernel
theorem dX6_digest_111 : decode cX6_digest 111 = .ok (.iload_n 3, 1) := by decide +kernel
theorem dX6_digest_112 : decode cX6_digest 112 = .ok (.iload 4, 2) := by decide +kernel
theorem dX6_digest_114 : decode cX6_digest 114 = .ok (.invokevirtual 210, 3) := by decide +kernel
theorem dX6_digest_117 : decode cX6_digest 117 = .ok (.i2l, 1) := by decide +kernel
theorem dX6_digest_118 : decode cX6_digest 118 = .ok (.ladd, 1) := by decide +kernel
theorem dX6_digest_119 : decode cX6_digest 119 = .ok (.lstore_n 1, 1) := by decide +kernel
theorem dX6_digest_120 : decode cX6_digest 120 = .ok (.iinc 4 1, 3) := by decide +kernel
theorem dX6_digest_123 : decode cX6_digest 123 = .ok (.goto (-28), 3) := by decide +kernel
theorem dX6_digest_126 : decode cX6_digest 126 = .ok (.ldc2_w 271, 3) := by decide +kernel
theorem dX6_digest_129 : decode cX6_digest 129 = .ok (.lload_n 1, 1) := by decide +kernel
theorem dX6_digest_130 : decode cX6_digest 130 = .ok (.lmul, 1) := by decide +kernel
theorem dX6_digest_131 : decode cX6_digest 131 = .ok (.aload_n 0, 1) := by decide +kernel
theorem dX6_digest_132 : decode cX6_digest 132 = .ok (.getfield 33, 3) := by decide +kernel
theorem dX6_digest_135 : decode cX6_digest 135 = .ok (.iload_n 3, 1) := by decide +kernel
theorem dX6_digest_136 : decode cX6_digest 136 = .ok (.bipush 7, 2) := by decide +kernel
theorem dX6_digest_138 : decode cX6_digest 138 = .ok (.invokevirtual 210, 3) := by decide +kernel
theorem dX6_digest_141 : decode cX6_digest 141 = .ok (.i2l, 1) := by decide +kernel
theorem dX6_digest_142 : decode cX6_digest 142 = .ok (.ladd, 1) := by decide +kernel
theorem dX6_digest_143 : decode cX6_digest 143 = .ok (.lstore_n 1, 1) := by decide +kernel
theorem dX6_digest_144 : decode cX6_digest 144 = .ok (.iinc 3 1, 3) := by decide +kernel
theorem dX6_digest_147 : decode cX6_digest 147 = .ok (.goto (-66), 3) := by decide +kernel
theorem dX6_digest_150 : decode cX6_digest 150 = .ok (.iconst 0, 1) := by decide +kernel
theorem dX6_digest_151 : decode cX6_digest 151 = .ok (.istore_n 3, 1) := by decide +kernel
theorem dX6_digest_152 : decode cX6_digest 152 = .ok (.iload_n 3, 1) := by decide +kernel
theorem dX6_digest_153 : decode cX6_digest 153 = .ok (.bipush 6, 2) := by decide +kernel
theorem dX6_digest_155 : decode cX6_digest 155 = .ok (.if_icmp .ge 19, 3) := by decide +kernel
theorem dX6_digest_158 : decode cX6_digest 158 = .ok (.aload_n 0, 1) := by decide +kernel
theorem dX6_digest_159 : decode cX6_digest 159 = .ok (.getfield 10, 3) := by decide +kernel
theorem dX6_digest_162 : decode cX6_digest 162 = .ok (.lload_n 1, 1) := by decide +kernel
theorem dX6_digest_163 : decode cX6_digest 163 = .ok (.iload_n 3, 1) := by decide +kernel
theorem dX6_digest_164 : decode cX6_digest 164 = .ok (.invokevirtual 279, 3) := by decide +kernel
theorem dX6_digest_167 : decode cX6_digest 167 = .ok (.lstore_n 1, 1) := by decide +kernel
theorem dX6_digest_168 : decode cX6_digest 168 = .ok (.iinc 3 1, 3) := by decide +kernel
theorem dX6_digest_171 : decode cX6_digest 171 = .ok (.goto (-19), 3) := by decide +kernel
theorem dX6_digest_174 : decode cX6_digest 174 = .ok (.lload_n 1, 1) := by decide +kernel
theorem dX6_digest_175 : decode cX6_digest 175 = .ok (.lreturn, 1) := by decide +kernel
set_option maxRecDepth 20000 in
theorem ggX6_refuse_X6_isBetween : GoodIn wsX6_refuse wsX6_isBetween := goodIn_r _ [6] (by decide +kernel) (by decide +kernel)
set_option maxRecDepth 20000 in
theorem gX6_refuse_X6_isBetween : GoodIn wsX6_refuse (va_wsS RX6 113 yX6_isBetween wsX6_isBetween) := goodIn_app (goodIn_of _ (by decide +kernel)) ggX6_refuse_X6_isBetween
theorem dX6_refuse_0 : decode cX6_refuse 0 = .ok (.iload_n 1, 1) := by decide +kernel
theorem dX6_refuse_1 : decode cX6_refuse 1 = .ok (.iconst 1, 1) := by decide +kernel
theorem dX6_refuse_2 : decode cX6_refuse 2 = .ok (.iconst 5, 1) := by decide +kernel
theorem dX6_refuse_3 : decode cX6_refuse 3 = .ok (.invokestatic 113, 3) := by decide +kernel
theorem dX6_refuse_6 : decode cX6_refuse 6 = .ok (.ifCond .eq 18, 3) := by decide +kernel
theorem dX6_refuse_9 : decode cX6_refuse 9 = .ok (.aload_n 0, 1) := by decide +kernel
theorem dX6_refuse_10 : decode cX6_refuse 10 = .ok (.iload_n 1, 1) := by decide +kernel
theorem dX6_refuse_11 : decode cX6_refuse 11 = .ok (.putfield 55, 3) := by decide +kernel
theorem dX6_refuse_14 : decode cX6_refuse 14 = .ok (.aload_n 0, 1) := by decide +kernel
theorem dX6_refuse_15 : decode cX6_refuse 15 = .ok (.getfield 51, 3) := by decide +kernel
theorem dX6_refuse_18 : decode cX6_refuse 18 = .ok (.iload_n 1, 1) := by decide +kernel
theorem dX6_refuse_19 : decode cX6_refuse 19 = .ok (.dup2, 1) := by decide +kernel
theorem dX6_refuse_20 : decode cX6_refuse 20 = .ok (.iaload, 1) := by decide +kernel
theorem dX6_refuse_21 : decode cX6_refuse 21 = .ok (.iconst 1, 1) := by decide +kernel
theorem dX6_refuse_22 : decode cX6_refuse 22 = .ok (.iadd, 1) := by decide +kernel
theorem dX6_refuse_23 : decode cX6_refuse 23 = .ok (.iastore, 1) := by decide +kernel
theorem dX6_refuse_24 : decode cX6_refuse 24 = .ok (.bipush (-3), 2) := by decide +kernel
theorem dX6_refuse_26 : decode cX6_refuse 26 = .ok (.ireturn, 1) := by decide +kernel
set_option maxRecDepth 20000 in
theorem ggX6_driftRefusal_X0_has : GoodIn wsX6_driftRefusal wsX0_has := goodIn_r _ [8, 9, 10, 11, 12, 50, 51, 52] (by decide +kernel) (by decide +kernel)
set_option maxRecDepth 20000 in
theorem gX6_driftRefusal_X0_has : GoodIn wsX6_driftRefusal (wsV RX6 165 RX0 yX0_has wsX0_has) := goodIn_app (goodIn_of _ (by decide +kernel)) ggX6_driftRefusal_X0_has
set_option maxRecDepth 20000 in
theorem ggX6_driftRefusal_X1_latestOf : GoodIn wsX6_driftRefusal wsX1_latestOf := goodIn_r _ [17, 18, 19, 20, 21, 22, 16, 23, 24, 25, 26, 27, 28, 53, 54] (by decide +kernel) (by decide +kernel)
set_option maxRecDepth 20000 in
theorem gX6_driftRefusal_X1_latestOf : GoodIn wsX6_driftRefusal (wsV RX6 178 RX1 yX1_latestOf wsX1_latestOf) := goodIn_app (goodIn_of _ (by decide +kernel)) ggX6_driftRefusal_X1_latestOf
set_option maxRecDepth 20000 in
theorem ggX6_driftRefusal_X1_lastUntil : GoodIn wsX6_driftRefusal wsX1_lastUntil := goodIn_r _ [23, 19, 24, 25, 26, 27, 28, 53, 54] (by decide +kernel) (by decide +kernel)
set_option maxRecDepth 20000 in
theorem gX6_driftRefusal_X1_lastUntil : GoodIn wsX6_driftRefusal (wsV RX6 203 RX1 yX1_lastUntil wsX1_lastUntil) := goodIn_app (goodIn_of _ (by decide +kernel)) ggX6_driftRefusal_X1_lastUntil
set_option maxRecDepth 20000 in
theorem ggX6_driftRefusal_X1_rise : GoodIn wsX6_driftRefusal wsX1_rise := goodIn_r _ [33, 28, 53, 54] (by decide +kernel) (by decide +kernel)
set_option maxRecDepth 20000 in
theorem gX6_driftRefusal_X1_rise : GoodIn wsX6_driftRefusal (wsV RX6 227 RX1 yX1_rise wsX1_rise) := goodIn_app (goodIn_of _ (by decide +kernel)) ggX6_driftRefusal_X1_rise
set_option maxRecDepth 20000 in
theorem ggX6_driftRefusal_X6_refuse : GoodIn wsX6_driftRefusal wsX6_refuse := goodIn_r _ [37, 38, 39, 40, 10, 11, 12, 41, 42, 43, 44, 45, 46, 47, 48, 49] (by decide +kernel) (by decide +kernel)
set_option maxRecDepth 20000 in
theorem gX6_driftRefusal_X6_refuse : GoodIn wsX6_driftRefusal (wsV RX6 67 RX6 yX6_refuse wsX6_refuse) := goodIn_app (goodIn_of _ (by decide +kernel)) ggX6_driftRefusal_X6_refuse
theorem dX6_driftRefusal_0 : decode cX6_driftRefusal 0 = .ok (.aload_n 0, 1) := by decide +kernel
theorem dX6_driftRefusal_1 : decode cX6_driftRefusal 1 = .ok (.getfield 26, 3) := by decide +kernel
theorem dX6_driftRefusal_4 : decode cX6_driftRefusal 4 = .ok (.iload_n 1, 1) := by decide +kernel
theorem dX6_driftRefusal_5 : decode cX6_driftRefusal 5 = .ok (.invokevirtual 165, 3) := by decide +kernel
theorem dX6_driftRefusal_8 : decode cX6_driftRefusal 8 = .ok (.ifCond .ne 5, 3) := by decide +kernel
theorem dX6_driftRefusal_11 : decode cX6_driftRefusal 11 = .ok (.iconst (-1), 1) := by decide +kernel
theorem dX6_driftRefusal_12 : decode cX6_driftRefusal 12 = .ok (.ireturn, 1) := by decide +kernel
theorem dX6_driftRefusal_13 : decode cX6_driftRefusal 13 = .ok (.aload_n 0, 1) := by decide +kernel
theorem dX6_driftRefusal_14 : decode cX6_driftRefusal 14 = .ok (.getfield 33, 3) := by decide +kernel
theorem dX6_driftRefusal_17 : decode cX6_driftRefusal 17 = .ok (.iload_n 1, 1) := by decide +kernel
theorem dX6_driftRefusal_18 : decode cX6_driftRefusal 18 = .ok (.invokevirtual 178, 3) := by decide +kernel
theorem dX6_driftRefusal_21 : decode cX6_driftRefusal 21 = .ok (.istore_n 2, 1) := by decide +kernel
theorem dX6_driftRefusal_22 : decode cX6_driftRefusal 22 = .ok (.iload_n 2, 1) := by decide +kernel
theorem dX6_driftRefusal_23 : decode cX6_driftRefusal 23 = .ok (.bipush (-9), 2) := by decide +kernel
theorem dX6_driftRefusal_25 : decode cX6_driftRefusal 25 = .ok (.if_icmp .ne 8, 3) := by decide +kernel
theorem dX6_driftRefusal_28 : decode cX6_driftRefusal 28 = .ok (.bipush (-9), 2) := by decide +kernel
theorem dX6_driftRefusal_30 : decode cX6_driftRefusal 30 = .ok (.goto 14, 3) := by decide +kernel
theorem dX6_driftRefusal_33 : decode cX6_driftRefusal 33 = .ok (.aload_n 0, 1) := by decide +kernel
theorem dX6_driftRefusal_34 : decode cX6_driftRefusal 34 = .ok (.getfield 33, 3) := by decide +kernel
theorem dX6_driftRefusal_37 : decode cX6_driftRefusal 37 = .ok (.iload_n 1, 1) := by decide +kernel
theorem dX6_driftRefusal_38 : decode cX6_driftRefusal 38 = .ok (.ldc 75, 2) := by decide +kernel
theorem dX6_driftRefusal_40 : decode cX6_driftRefusal 40 = .ok (.iload_n 2, 1) := by decide +kernel
theorem dX6_driftRefusal_41 : decode cX6_driftRefusal 41 = .ok (.invokevirtual 203, 3) := by decide +kernel
theorem dX6_driftRefusal_44 : decode cX6_driftRefusal 44 = .ok (.istore_n 3, 1) := by decide +kernel
theorem dX6_driftRefusal_45 : decode cX6_driftRefusal 45 = .ok (.iload_n 3, 1) := by decide +kernel
theorem dX6_driftRefusal_46 : decode cX6_driftRefusal 46 = .ok (.bipush (-9), 2) := by decide +kernel
theorem dX6_driftRefusal_48 : decode cX6_driftRefusal 48 = .ok (.if_icmp .ne 6, 3) := by decide +kernel
theorem dX6_driftRefusal_51 : decode cX6_driftRefusal 51 = .ok (.bipush (-4), 2) := by decide +kernel
theorem dX6_driftRefusal_53 : decode cX6_driftRefusal 53 = .ok (.ireturn, 1) := by decide +kernel
theorem dX6_driftRefusal_54 : decode cX6_driftRefusal 54 = .ok (.aload_n 0, 1) := by decide +kernel
theorem dX6_driftRefusal_55 : decode cX6_driftRefusal 55 = .ok (.getfield 33, 3) := by decide +kernel
theorem dX6_driftRefusal_58 : decode cX6_driftRefusal 58 = .ok (.iconst 3, 1) := by decide +kernel
theorem dX6_driftRefusal_59 : decode cX6_driftRefusal 59 = .ok (.iload_n 3, 1) := by decide +kernel
theorem dX6_driftRefusal_60 : decode cX6_driftRefusal 60 = .ok (.iload_n 2, 1) := by decide +kernel
theorem dX6_driftRefusal_61 : decode cX6_driftRefusal 61 = .ok (.invokevirtual 227, 3) := by decide +kernel
theorem dX6_driftRefusal_64 : decode cX6_driftRefusal 64 = .ok (.ifCond .ne 11, 3) := by decide +kernel
theorem dX6_driftRefusal_67 : decode cX6_driftRefusal 67 = .ok (.aload_n 0, 1) := by decide +kernel
theorem dX6_driftRefusal_68 : decode cX6_driftRefusal 68 = .ok (.iconst 4, 1) := by decide +kernel
theorem dX6_driftRefusal_69 : decode cX6_driftRefusal 69 = .ok (.invokevirtual 67, 3) := by decide +kernel
theorem dX6_driftRefusal_72 : decode cX6_driftRefusal 72 = .ok (.goto 4, 3) := by decide +kernel
theorem dX6_driftRefusal_75 : decode cX6_driftRefusal 75 = .ok (.iconst 0, 1) := by decide +kernel
theorem dX6_driftRefusal_76 : decode cX6_driftRefusal 76 = .ok (.ireturn, 1) := by decide +kernel
theorem dX6_daysWithin_0 : decode cX6_daysWithin 0 = .ok (.lload_n 0, 1) := by decide +kernel
theorem dX6_daysWithin_1 : decode cX6_daysWithin 1 = .ok (.lload 6, 2) := by decide +kernel
theorem dX6_daysWithin_3 : decode cX6_daysWithin 3 = .ok (.lmul, 1) := by decide +kernel
theorem dX6_daysWithin_4 : decode cX6_daysWithin 4 = .ok (.lstore 8, 2) := by decide +kernel
theorem dX6_daysWithin_6 : decode cX6_daysWithin 6 = .ok (.lload_n 2, 1) := by decide +kernel
theorem dX6_daysWithin_7 : decode cX6_daysWithin 7 = .ok (.lload 6, 2) := by decide +kernel
theorem dX6_daysWithin_9 : decode cX6_daysWithin 9 = .ok (.lmul, 1) := by decide +kernel
theorem dX6_daysWithin_10 : decode cX6_daysWithin 10 = .ok (.lstore 10, 2) := by decide +kernel
theorem dX6_daysWithin_12 : decode cX6_daysWithin 12 = .ok (.lload 8, 2) := by decide +kernel
theorem dX6_daysWithin_14 : decode cX6_daysWithin 14 = .ok (.invokestatic 153, 3) := by decide +kernel
theorem dX6_daysWithin_17 : decode cX6_daysWithin 17 = .ok (.lload 10, 2) := by decide +kernel
theorem dX6_daysWithin_19 : decode cX6_daysWithin 19 = .ok (.lcmp, 1) := by decide +kernel
theorem dX6_daysWithin_20 : decode cX6_daysWithin 20 = .ok (.ifCond .le 5, 3) := by decide +kernel
theorem dX6_daysWithin_23 : decode cX6_daysWithin 23 = .ok (.lconst 0, 1) := by decide +kernel
theorem dX6_daysWithin_24 : decode cX6_daysWithin 24 = .ok (.lreturn, 1) := by decide +kernel
theorem dX6_daysWithin_25 : decode cX6_daysWithin 25 = .ok (.lload 4, 2) := by decide +kernel
theorem dX6_daysWithin_27 : decode cX6_daysWithin 27 = .ok (.lconst 0, 1) := by decide +kernel
theorem dX6_daysWithin_28 : decode cX6_daysWithin 28 = .ok (.lcmp, 1) := by decide +kernel
theorem dX6_daysWithin_29 : decode cX6_daysWithin 29 = .ok (.ifCond .ne 7, 3) := by decide +kernel
theorem dX6_daysWithin_32 : decode cX6_daysWithin 32 = .ok (.ldc2_w 234, 3) := by decide +kernel
theorem dX6_daysWithin_35 : decode cX6_daysWithin 35 = .ok (.lreturn, 1) := by decide +kernel
theorem dX6_daysWithin_36 : decode cX6_daysWithin 36 = .ok (.lload 4, 2) := by decide +kernel
theorem dX6_daysWithin_38 : decode cX6_daysWithin 38 = .ok (.lconst 0, 1) := by decide +kernel
theorem dX6_daysWithin_39 : decode cX6_daysWithin 39 = .ok (.lcmp, 1) := by decide +kernel
theorem dX6_daysWithin_40 : decode cX6_daysWithin 40 = .ok (.ifCond .le 11, 3) := by decide +kernel
theorem dX6_daysWithin_43 : decode cX6_daysWithin 43 = .ok (.lload 10, 2) := by decide +kernel
theorem dX6_daysWithin_45 : decode cX6_daysWithin 45 = .ok (.lload 8, 2) := by decide +kernel
theorem dX6_daysWithin_47 : decode cX6_daysWithin 47 = .ok (.lsub, 1) := by decide +kernel
theorem dX6_daysWithin_48 : decode cX6_daysWithin 48 = .ok (.goto 8, 3) := by decide +kernel
theorem dX6_daysWithin_51 : decode cX6_daysWithin 51 = .ok (.lload 10, 2) := by decide +kernel
theorem dX6_daysWithin_53 : decode cX6_daysWithin 53 = .ok (.lload 8, 2) := by decide +kernel
theorem dX6_daysWithin_55 : decode cX6_daysWithin 55 = .ok (.ladd, 1) := by decide +kernel
theorem dX6_daysWithin_56 : decode cX6_daysWithin 56 = .ok (.lstore 12, 2) := by decide +kernel
theorem dX6_daysWithin_58 : decode cX6_daysWithin 58 = .ok (.lload 12, 2) := by decide +kernel
theorem dX6_daysWithin_60 : decode cX6_daysWithin 60 = .ok (.lload 4, 2) := by decide +kernel
theorem dX6_daysWithin_62 : decode cX6_daysWithin 62 = .ok (.invokestatic 153, 3) := by decide +kernel
theorem dX6_daysWithin_65 : decode cX6_daysWithin 65 = .ok (.ldiv, 1) := by decide +kernel
theorem dX6_daysWithin_66 : decode cX6_daysWithin 66 = .ok (.lconst 1, 1) := by decide +kernel
theorem dX6_daysWithin_67 : decode cX6_daysWithin 67 = .ok (.ladd, 1) := by decide +kernel
theorem dX6_daysWithin_68 : decode cX6_daysWithin 68 = .ok (.lreturn, 1) := by decide +kernel
theorem dX6_isBetween_0 : decode cX6_isBetween 0 = .ok (.iload_n 0, 1) := by decide +kernel
theorem dX6_isBetween_1 : decode cX6_isBetween 1 = .ok (.iload_n 1, 1) := by decide +kernel
theorem dX6_isBetween_2 : decode cX6_isBetween 2 = .ok (.if_icmp .lt 12, 3) := by decide +kernel
theorem dX6_isBetween_5 : decode cX6_isBetween 5 = .ok (.iload_n 0, 1) := by decide +kernel
theorem dX6_isBetween_6 : decode cX6_isBetween 6 = .ok (.iload_n 2, 1) := by decide +kernel
theorem dX6_isBetween_7 : decode cX6_isBetween 7 = .ok (.if_icmp .gt 7, 3) := by decide +kernel
theorem dX6_isBetween_10 : decode cX6_isBetween 10 = .ok (.iconst 1, 1) := by decide +kernel
theorem dX6_isBetween_11 : decode cX6_isBetween 11 = .ok (.goto 4, 3) := by decide +kernel
theorem dX6_isBetween_14 : decode cX6_isBetween 14 = .ok (.iconst 0, 1) := by decide +kernel
theorem dX6_isBetween_15 : decode cX6_isBetween 15 = .ok (.ireturn, 1) := by decide +kernel
set_option maxRecDepth 20000 in
theorem ggX6_isWithin_X6_isBetween : GoodIn wsX6_isWithin wsX6_isBetween := goodIn_r _ [4] (by decide +kernel) (by decide +kernel)
set_option maxRecDepth 20000 in
theorem gX6_isWithin_X6_isBetween : GoodIn wsX6_isWithin (va_wsS RX6 113 yX6_isBetween wsX6_isBetween) := goodIn_app (goodIn_of _ (by decide +kernel)) ggX6_isWithin_X6_isBetween
theorem dX6_isWithin_0 : decode cX6_isWithin 0 = .ok (.iload_n 0, 1) := by decide +kernel
theorem dX6_isWithin_1 : decode cX6_isWithin 1 = .ok (.iload_n 1, 1) := by decide +kernel
theorem dX6_isWithin_2 : decode cX6_isWithin 2 = .ok (.ineg, 1) := by decide +kernel
theorem dX6_isWithin_3 : decode cX6_isWithin 3 = .ok (.iload_n 1, 1) := by decide +kernel
theorem dX6_isWithin_4 : decode cX6_isWithin 4 = .ok (.invokestatic 113, 3) := by decide +kernel
theorem dX6_isWithin_7 : decode cX6_isWithin 7 = .ok (.ireturn, 1) := by decide +kernel
set_option maxRecDepth 20000 in
theorem ggX6_isRow_X6_isBetween : GoodIn wsX6_isRow wsX6_isBetween := goodIn_r _ [4] (by decide +kernel) (by decide +kernel)
set_option maxRecDepth 20000 in
theorem gX6_isRow_X6_isBetween : GoodIn wsX6_isRow (va_wsS RX6 113 yX6_isBetween wsX6_isBetween) := goodIn_app (goodIn_of _ (by decide +kernel)) ggX6_isRow_X6_isBetween
theorem dX6_isRow_0 : decode cX6_isRow 0 = .ok (.iload_n 0, 1) := by decide +kernel
theorem dX6_isRow_1 : decode cX6_isRow 1 = .ok (.iconst 0, 1) := by decide +kernel
theorem dX6_isRow_2 : decode cX6_isRow 2 = .ok (.iconst 5, 1) := by decide +kernel
theorem dX6_isRow_3 : decode cX6_isRow 3 = .ok (.invokestatic 113, 3) := by decide +kernel
theorem dX6_isRow_6 : decode cX6_isRow 6 = .ok (.ireturn, 1) := by decide +kernel
set_option maxRecDepth 20000 in
theorem ggX6_isTable_X6_isBetween : GoodIn wsX6_isTable wsX6_isBetween := goodIn_r _ [4] (by decide +kernel) (by decide +kernel)
set_option maxRecDepth 20000 in
theorem gX6_isTable_X6_isBetween : GoodIn wsX6_isTable (va_wsS RX6 113 yX6_isBetween wsX6_isBetween) := goodIn_app (goodIn_of _ (by decide +kernel)) ggX6_isTable_X6_isBetween
theorem dX6_isTable_0 : decode cX6_isTable 0 = .ok (.iload_n 0, 1) := by decide +kernel
theorem dX6_isTable_1 : decode cX6_isTable 1 = .ok (.iconst 0, 1) := by decide +kernel
theorem dX6_isTable_2 : decode cX6_isTable 2 = .ok (.iconst 3, 1) := by decide +kernel
theorem dX6_isTable_3 : decode cX6_isTable 3 = .ok (.invokestatic 113, 3) := by decide +kernel
theorem dX6_isTable_6 : decode cX6_isTable 6 = .ok (.ireturn, 1) := by decide +kernel
set_option maxRecDepth 20000 in
theorem ggX6_isBath_X6_isBetween : GoodIn wsX6_isBath wsX6_isBetween := goodIn_r _ [4] (by decide +kernel) (by decide +kernel)
set_option maxRecDepth 20000 in
theorem gX6_isBath_X6_isBetween : GoodIn wsX6_isBath (va_wsS RX6 113 yX6_isBetween wsX6_isBetween) := goodIn_app (goodIn_of _ (by decide +kernel)) ggX6_isBath_X6_isBetween
theorem dX6_isBath_0 : decode cX6_isBath 0 = .ok (.iload_n 0, 1) := by decide +kernel
theorem dX6_isBath_1 : decode cX6_isBath 1 = .ok (.iconst 0, 1) := by decide +kernel
theorem dX6_isBath_2 : decode cX6_isBath 2 = .ok (.bipush 7, 2) := by decide +kernel
theorem dX6_isBath_4 : decode cX6_isBath 4 = .ok (.invokestatic 113, 3) := by decide +kernel
theorem dX6_isBath_7 : decode cX6_isBath 7 = .ok (.ireturn, 1) := by decide +kernel
set_option maxRecDepth 20000 in
theorem ggX6_isDay_X6_isBetween : GoodIn wsX6_isDay wsX6_isBetween := goodIn_r _ [5] (by decide +kernel) (by decide +kernel)
set_option maxRecDepth 20000 in
theorem gX6_isDay_X6_isBetween : GoodIn wsX6_isDay (va_wsS RX6 113 yX6_isBetween wsX6_isBetween) := goodIn_app (goodIn_of _ (by decide +kernel)) ggX6_isDay_X6_isBetween
theorem dX6_isDay_0 : decode cX6_isDay 0 = .ok (.iload_n 0, 1) := by decide +kernel
theorem dX6_isDay_1 : decode cX6_isDay 1 = .ok (.iconst 0, 1) := by decide +kernel
theorem dX6_isDay_2 : decode cX6_isDay 2 = .ok (.ldc 75, 2) := by decide +kernel
theorem dX6_isDay_4 : decode cX6_isDay 4 = .ok (.invokestatic 113, 3) := by decide +kernel
theorem dX6_isDay_7 : decode cX6_isDay 7 = .ok (.ireturn, 1) := by decide +kernel
set_option maxRecDepth 20000 in
theorem ggX6_isLab_X6_isBetween : GoodIn wsX6_isLab wsX6_isBetween := goodIn_r _ [4] (by decide +kernel) (by decide +kernel)
set_option maxRecDepth 20000 in
theorem gX6_isLab_X6_isBetween : GoodIn wsX6_isLab (va_wsS RX6 113 yX6_isBetween wsX6_isBetween) := goodIn_app (goodIn_of _ (by decide +kernel)) ggX6_isLab_X6_isBetween
theorem dX6_isLab_0 : decode cX6_isLab 0 = .ok (.iload_n 0, 1) := by decide +kernel
theorem dX6_isLab_1 : decode cX6_isLab 1 = .ok (.iconst 0, 1) := by decide +kernel
theorem dX6_isLab_2 : decode cX6_isLab 2 = .ok (.iconst 5, 1) := by decide +kernel
theorem dX6_isLab_3 : decode cX6_isLab 3 = .ok (.invokestatic 113, 3) := by decide +kernel
theorem dX6_isLab_6 : decode cX6_isLab 6 = .ok (.ireturn, 1) := by decide +kernel
theorem dX6_greatestDivisor_0 : decode cX6_greatestDivisor 0 = .ok (.lload_n 0, 1) := by decide +kernel
theorem dX6_greatestDivisor_1 : decode cX6_greatestDivisor 1 = .ok (.invokestatic 153, 3) := by decide +kernel
theorem dX6_greatestDivisor_4 : decode cX6_greatestDivisor 4 = .ok (.lstore 4, 2) := by decide +kernel
theorem dX6_greatestDivisor_6 : decode cX6_greatestDivisor 6 = .ok (.lload_n 2, 1) := by decide +kernel
theorem dX6_greatestDivisor_7 : decode cX6_greatestDivisor 7 = .ok (.invokestatic 153, 3) := by decide +kernel
theorem dX6_greatestDivisor_10 : decode cX6_greatestDivisor 10 = .ok (.lstore 6, 2) := by decide +kernel
theorem dX6_greatestDivisor_12 : decode cX6_greatestDivisor 12 = .ok (.iconst 0, 1) := by decide +kernel
theorem dX6_greatestDivisor_13 : decode cX6_greatestDivisor 13 = .ok (.istore 8, 2) := by decide +kernel
theorem dX6_greatestDivisor_15 : decode cX6_greatestDivisor 15 = .ok (.iload 8, 2) := by decide +kernel
theorem dX6_greatestDivisor_17 : decode cX6_greatestDivisor 17 = .ok (.sipush 200, 3) := by decide +kernel
theorem dX6_greatestDivisor_20 : decode cX6_greatestDivisor 20 = .ok (.if_icmp .ge 31, 3) := by decide +kernel
theorem dX6_greatestDivisor_23 : decode cX6_greatestDivisor 23 = .ok (.lload 6, 2) := by decide +kernel
theorem dX6_greatestDivisor_25 : decode cX6_greatestDivisor 25 = .ok (.lconst 0, 1) := by decide +kernel
theorem dX6_greatestDivisor_26 : decode cX6_greatestDivisor 26 = .ok (.lcmp, 1) := by decide +kernel
theorem dX6_greatestDivisor_27 : decode cX6_greatestDivisor 27 = .ok (.ifCond .eq 24, 3) := by decide +kernel
theorem dX6_greatestDivisor_30 : decode cX6_greatestDivisor 30 = .ok (.lload 4, 2) := by decide +kernel
theorem dX6_greatestDivisor_32 : decode cX6_greatestDivisor 32 = .ok (.lload 6, 2) := by decide +kernel
theorem dX6_greatestDivisor_34 : decode cX6_greatestDivisor 34 = .ok (.lrem, 1) := by decide +kernel
theorem dX6_greatestDivisor_35 : decode cX6_greatestDivisor 35 = .ok (.lstore 9, 2) := by decide +kernel
theorem dX6_greatestDivisor_37 : decode cX6_greatestDivisor 37 = .ok (.lload 6, 2) := by decide +kernel
theorem dX6_greatestDivisor_39 : decode cX6_greatestDivisor 39 = .ok (.lstore 4, 2) := by decide +kernel
theorem dX6_greatestDivisor_41 : decode cX6_greatestDivisor 41 = .ok (.lload 9, 2) := by decide +kernel
theorem dX6_greatestDivisor_43 : decode cX6_greatestDivisor 43 = .ok (.lstore 6, 2) := by decide +kernel
theorem dX6_greatestDivisor_45 : decode cX6_greatestDivisor 45 = .ok (.iinc 8 1, 3) := by decide +kernel
theorem dX6_greatestDivisor_48 : decode cX6_greatestDivisor 48 = .ok (.goto (-33), 3) := by decide +kernel
theorem dX6_greatestDivisor_51 : decode cX6_greatestDivisor 51 = .ok (.lload 4, 2) := by decide +kernel
theorem dX6_greatestDivisor_53 : decode cX6_greatestDivisor 53 = .ok (.lreturn, 1) := by decide +kernel
set_option maxRecDepth 20000 in
theorem ggX6_leastMultiple_X6_greatestDivisor : GoodIn wsX6_leastMultiple wsX6_greatestDivisor := goodIn_r _ [8, 1, 2, 3, 4] (by decide +kernel) (by decide +kernel)
set_option maxRecDepth 20000 in
theorem gX6_leastMultiple_X6_greatestDivisor : GoodIn wsX6_leastMultiple (va_wsS RX6 283 yX6_greatestDivisor wsX6_greatestDivisor) := goodIn_app (goodIn_of _ (by decide +kernel)) ggX6_leastMultiple_X6_greatestDivisor
theorem dX6_leastMultiple_0 : decode cX6_leastMultiple 0 = .ok (.lload_n 0, 1) := by decide +kernel
theorem dX6_leastMultiple_1 : decode cX6_leastMultiple 1 = .ok (.lload_n 2, 1) := by decide +kernel
theorem dX6_leastMultiple_2 : decode cX6_leastMultiple 2 = .ok (.invokestatic 283, 3) := by decide +kernel
theorem dX6_leastMultiple_5 : decode cX6_leastMultiple 5 = .ok (.lstore 4, 2) := by decide +kernel
theorem dX6_leastMultiple_7 : decode cX6_leastMultiple 7 = .ok (.lload 4, 2) := by decide +kernel
theorem dX6_leastMultiple_9 : decode cX6_leastMultiple 9 = .ok (.lconst 0, 1) := by decide +kernel
theorem dX6_leastMultiple_10 : decode cX6_leastMultiple 10 = .ok (.lcmp, 1) := by decide +kernel
theorem dX6_leastMultiple_11 : decode cX6_leastMultiple 11 = .ok (.ifCond .ne 7, 3) := by decide +kernel
theorem dX6_leastMultiple_14 : decode cX6_leastMultiple 14 = .ok (.lconst 0, 1) := by decide +kernel
theorem dX6_leastMultiple_15 : decode cX6_leastMultiple 15 = .ok (.goto 12, 3) := by decide +kernel
theorem dX6_leastMultiple_18 : decode cX6_leastMultiple 18 = .ok (.lload_n 0, 1) := by decide +kernel
theorem dX6_leastMultiple_19 : decode cX6_leastMultiple 19 = .ok (.lload 4, 2) := by decide +kernel
theorem dX6_leastMultiple_21 : decode cX6_leastMultiple 21 = .ok (.ldiv, 1) := by decide +kernel
theorem dX6_leastMultiple_22 : decode cX6_leastMultiple 22 = .ok (.lload_n 2, 1) := by decide +kernel
theorem dX6_leastMultiple_23 : decode cX6_leastMultiple 23 = .ok (.lmul, 1) := by decide +kernel
theorem dX6_leastMultiple_24 : decode cX6_leastMultiple 24 = .ok (.invokestatic 153, 3) := by decide +kernel
theorem dX6_leastMultiple_27 : decode cX6_leastMultiple 27 = .ok (.lreturn, 1) := by decide +kernel
