set_option maxRecDepth 20000 in
theorem ggX2_grow_X2_addressOf : GoodIn wsX2_grow wsX2_addressOf := goodIn_r _ [42, 43, 4, 3, 64, 65, 66, 67, 68, 69, 70, 71, 72, 73, 74] (by decide +kernel) (by decide +kernel)
set_option maxRecDepth 20000 in
theorem gX2_grow_X2_addressOf : GoodIn wsX2_grow (wsV RX2 88 RX2 yX2_addressOf wsX2_addressOf) := goodIn_app (goodIn_of _ (by decide +kernel)) ggX2_grow_X2_addressOf
set_option maxRecDepth 20000 in
theorem ggX2_grow_X2_append : GoodIn wsX2_grow wsX2_append := goodIn_r _ [47, 12, 13, 14, 15, 48, 49, 50, 10, 51, 17, 36, 18, 19, 20, 52, 53, 54, 55, 21, 22, 23, 56, 57, 58, 59, 16, 37, 38, 60, 61, 62, 63, 64, 65, 66, 67, 68, 69, 70, 71, 72, 73, 74] (by decide +kernel) (by decide +kernel)
set_option maxRecDepth 20000 in
theorem gX2_grow_X2_append : GoodIn wsX2_grow (wsV RX2 97 RX2 yX2_append wsX2_append) := goodIn_app (goodIn_of _ (by decide +kernel)) ggX2_grow_X2_append
theorem dX2_grow_0 : decode cX2_grow 0 = .ok (.aload_n 0, 1) := by decide +kernel
theorem dX2_grow_1 : decode cX2_grow 1 = .ok (.getfield 33, 3) := by decide +kernel
theorem dX2_grow_4 : decode cX2_grow 4 = .ok (.iconst 0, 1) := by decide +kernel
theorem dX2_grow_5 : decode cX2_grow 5 = .ok (.putfield 114, 3) := by decide +kernel
theorem dX2_grow_8 : decode cX2_grow 8 = .ok (.aload_n 0, 1) := by decide +kernel
theorem dX2_grow_9 : decode cX2_grow 9 = .ok (.aload_n 0, 1) := by decide +kernel
theorem dX2_grow_10 : decode cX2_grow 10 = .ok (.getfield 54, 3) := by decide +kernel
theorem dX2_grow_13 : decode cX2_grow 13 = .ok (.invokevirtual 119, 3) := by decide +kernel
theorem dX2_grow_16 : decode cX2_grow 16 = .ok (.aload_n 0, 1) := by decide +kernel
theorem dX2_grow_17 : decode cX2_grow 17 = .ok (.dup, 1) := by decide +kernel
theorem dX2_grow_18 : decode cX2_grow 18 = .ok (.getfield 54, 3) := by decide +kernel
theorem dX2_grow_21 : decode cX2_grow 21 = .ok (.iconst 1, 1) := by decide +kernel
theorem dX2_grow_22 : decode cX2_grow 22 = .ok (.iadd, 1) := by decide +kernel
theorem dX2_grow_23 : decode cX2_grow 23 = .ok (.putfield 54, 3) := by decide +kernel
theorem dX2_grow_26 : decode cX2_grow 26 = .ok (.aload_n 0, 1) := by decide +kernel
theorem dX2_grow_27 : decode cX2_grow 27 = .ok (.getfield 54, 3) := by decide +kernel
theorem dX2_grow_30 : decode cX2_grow 30 = .ok (.iconst 4, 1) := by decide +kernel
theorem dX2_grow_31 : decode cX2_grow 31 = .ok (.aload_n 0, 1) := by decide +kernel
theorem dX2_grow_32 : decode cX2_grow 32 = .ok (.getfield 50, 3) := by decide +kernel
theorem dX2_grow_35 : decode cX2_grow 35 = .ok (.ishl, 1) := by decide +kernel
theorem dX2_grow_36 : decode cX2_grow 36 = .ok (.if_icmp .ne 18, 3) := by decide +kernel
theorem dX2_grow_39 : decode cX2_grow 39 = .ok (.aload_n 0, 1) := by decide +kernel
theorem dX2_grow_40 : decode cX2_grow 40 = .ok (.iconst 0, 1) := by decide +kernel
theorem dX2_grow_41 : decode cX2_grow 41 = .ok (.putfield 54, 3) := by decide +kernel
theorem dX2_grow_44 : decode cX2_grow 44 = .ok (.aload_n 0, 1) := by decide +kernel
theorem dX2_grow_45 : decode cX2_grow 45 = .ok (.dup, 1) := by decide +kernel
theorem dX2_grow_46 : decode cX2_grow 46 = .ok (.getfield 50, 3) := by decide +kernel
theorem dX2_grow_49 : decode cX2_grow 49 = .ok (.iconst 1, 1) := by decide +kernel
theorem dX2_grow_50 : decode cX2_grow 50 = .ok (.iadd, 1) := by decide +kernel
theorem dX2_grow_51 : decode cX2_grow 51 = .ok (.putfield 50, 3) := by decide +kernel
theorem dX2_grow_54 : decode cX2_grow 54 = .ok (.iconst 0, 1) := by decide +kernel
theorem dX2_grow_55 : decode cX2_grow 55 = .ok (.istore_n 1, 1) := by decide +kernel
theorem dX2_grow_56 : decode cX2_grow 56 = .ok (.iload_n 1, 1) := by decide +kernel
theorem dX2_grow_57 : decode cX2_grow 57 = .ok (.aload_n 0, 1) := by decide +kernel
theorem dX2_grow_58 : decode cX2_grow 58 = .ok (.getfield 33, 3) := by decide +kernel
theorem dX2_grow_61 : decode cX2_grow 61 = .ok (.getfield 114, 3) := by decide +kernel
theorem dX2_grow_64 : decode cX2_grow 64 = .ok (.if_icmp .ge 51, 3) := by decide +kernel
theorem dX2_grow_67 : decode cX2_grow 67 = .ok (.iload_n 1, 1) := by decide +kernel
theorem dX2_grow_68 : decode cX2_grow 68 = .ok (.sipush 264, 3) := by decide +kernel
theorem dX2_grow_71 : decode cX2_grow 71 = .ok (.if_icmp .ge 44, 3) := by decide +kernel
theorem dX2_grow_74 : decode cX2_grow 74 = .ok (.aload_n 0, 1) := by decide +kernel
theorem dX2_grow_75 : decode cX2_grow 75 = .ok (.aload_n 0, 1) := by decide +kernel
theorem dX2_grow_76 : decode cX2_grow 76 = .ok (.aload_n 0, 1) := by decide +kernel
theorem dX2_grow_77 : decode cX2_grow 77 = .ok (.getfield 33, 3) := by decide +kernel
theorem dX2_grow_80 : decode cX2_grow 80 = .ok (.getfield 123, 3) := by decide +kernel
theorem dX2_grow_83 : decode cX2_grow 83 = .ok (.iload_n 1, 1) := by decide +kernel
theorem dX2_grow_84 : decode cX2_grow 84 = .ok (.iaload, 1) := by decide +kernel
theorem dX2_grow_85 : decode cX2_grow 85 = .ok (.invokevirtual 88, 3) := by decide +kernel
theorem dX2_grow_88 : decode cX2_grow 88 = .ok (.aload_n 0, 1) := by decide +kernel
theorem dX2_grow_89 : decode cX2_grow 89 = .ok (.getfield 33, 3) := by decide +kernel
theorem dX2_grow_92 : decode cX2_grow 92 = .ok (.getfield 123, 3) := by decide +kernel
theorem dX2_grow_95 : decode cX2_grow 95 = .ok (.iload_n 1, 1) := by decide +kernel
theorem dX2_grow_96 : decode cX2_grow 96 = .ok (.iaload, 1) := by decide +kernel
theorem dX2_grow_97 : decode cX2_grow 97 = .ok (.aload_n 0, 1) := by decide +kernel
theorem dX2_grow_98 : decode cX2_grow 98 = .ok (.getfield 33, 3) := by decide +kernel
theorem dX2_grow_101 : decode cX2_grow 101 = .ok (.getfield 124, 3) := by decide +kernel
theorem dX2_grow_104 : decode cX2_grow 104 = .ok (.iload_n 1, 1) := by decide +kernel
theorem dX2_grow_105 : decode cX2_grow 105 = .ok (.iaload, 1) := by decide +kernel
theorem dX2_grow_106 : decode cX2_grow 106 = .ok (.invokevirtual 97, 3) := by decide +kernel
theorem dX2_grow_109 : decode cX2_grow 109 = .ok (.iinc 1 1, 3) := by decide +kernel
theorem dX2_grow_112 : decode cX2_grow 112 = .ok (.goto (-56), 3) := by decide +kernel
theorem dX2_grow_115 : decode cX2_grow 115 = .ok (.return_, 1) := by decide +kernel
set_option maxRecDepth 20000 in
theorem ggX2_shrink_X2_bucketCount : GoodIn wsX2_shrink wsX2_bucketCount := goodIn_r _ [11, 2, 1, 79, 80, 81, 82, 83, 84, 85, 86, 87, 88, 89] (by decide +kernel) (by decide +kernel)
set_option maxRecDepth 20000 in
theorem gX2_shrink_X2_bucketCount : GoodIn wsX2_shrink (wsV RX2 65 RX2 yX2_bucketCount wsX2_bucketCount) := goodIn_app (goodIn_of _ (by decide +kernel)) ggX2_shrink_X2_bucketCount
set_option maxRecDepth 20000 in
theorem ggX2_shrink_X2_canJoin : GoodIn wsX2_shrink wsX2_canJoin := goodIn_r _ [15, 16, 17, 18, 19, 20, 21, 22, 10, 23, 24, 25, 26, 27, 28, 29, 30, 31, 32, 33, 34, 35, 36, 37, 38, 39, 40, 41, 42, 43, 44, 45, 46, 79, 80, 81, 82, 83, 84, 85, 86, 87, 88, 89] (by decide +kernel) (by decide +kernel)
set_option maxRecDepth 20000 in
theorem gX2_shrink_X2_canJoin : GoodIn wsX2_shrink (wsV RX2 125 RX2 yX2_canJoin wsX2_canJoin) := goodIn_app (goodIn_of _ (by decide +kernel)) ggX2_shrink_X2_canJoin
set_option maxRecDepth 20000 in
theorem ggX2_shrink_X2_setAside : GoodIn wsX2_shrink wsX2_setAside := goodIn_r _ [50, 41, 3, 51, 52, 53, 24, 32, 34, 35, 10, 36, 25, 26, 27, 54, 55, 56, 57, 58, 59, 60, 61, 62, 63, 64, 65, 33, 66, 46, 79, 80, 81, 82, 83, 84, 85, 86, 87, 88, 89, 90, 91, 92] (by decide +kernel) (by decide +kernel)
set_option maxRecDepth 20000 in
theorem gX2_shrink_X2_setAside : GoodIn wsX2_shrink (wsV RX2 119 RX2 yX2_setAside wsX2_setAside) := goodIn_app (goodIn_of _ (by decide +kernel)) ggX2_shrink_X2_setAside
set_option maxRecDepth 20000 in
theorem ggX2_shrink_X2_append : GoodIn wsX2_shrink wsX2_append := goodIn_r _ [70, 41, 51, 52, 53, 28, 29, 30, 10, 31, 32, 33, 34, 35, 36, 37, 38, 39, 40, 25, 26, 27, 71, 72, 73, 74, 24, 66, 46, 75, 76, 77, 78, 79, 80, 81, 82, 83, 84, 85, 86, 87, 88, 89] (by decide +kernel) (by decide +kernel)
set_option maxRecDepth 20000 in
theorem gX2_shrink_X2_append : GoodIn wsX2_shrink (wsV RX2 97 RX2 yX2_append wsX2_append) := goodIn_app (goodIn_of _ (by decide +kernel)) ggX2_shrink_X2_append
theorem dX2_shrink_0 : decode cX2_shrink 0 = .ok (.aload_n 0, 1) := by decide +kernel
theorem dX2_shrink_1 : decode cX2_shrink 1 = .ok (.invokevirtual 65, 3) := by decide +kernel
theorem dX2_shrink_4 : decode cX2_shrink 4 = .ok (.iconst 1, 1) := by decide +kernel
theorem dX2_shrink_5 : decode cX2_shrink 5 = .ok (.isub, 1) := by decide +kernel
theorem dX2_shrink_6 : decode cX2_shrink 6 = .ok (.istore_n 1, 1) := by decide +kernel
theorem dX2_shrink_7 : decode cX2_shrink 7 = .ok (.aload_n 0, 1) := by decide +kernel
theorem dX2_shrink_8 : decode cX2_shrink 8 = .ok (.getfield 54, 3) := by decide +kernel
theorem dX2_shrink_11 : decode cX2_shrink 11 = .ok (.ifCond .ne 12, 3) := by decide +kernel
theorem dX2_shrink_14 : decode cX2_shrink 14 = .ok (.aload_n 0, 1) := by decide +kernel
theorem dX2_shrink_15 : decode cX2_shrink 15 = .ok (.getfield 50, 3) := by decide +kernel
theorem dX2_shrink_18 : decode cX2_shrink 18 = .ok (.iconst 1, 1) := by decide +kernel
theorem dX2_shrink_19 : decode cX2_shrink 19 = .ok (.isub, 1) := by decide +kernel
theorem dX2_shrink_20 : decode cX2_shrink 20 = .ok (.goto 7, 3) := by decide +kernel
theorem dX2_shrink_23 : decode cX2_shrink 23 = .ok (.aload_n 0, 1) := by decide +kernel
theorem dX2_shrink_24 : decode cX2_shrink 24 = .ok (.getfield 50, 3) := by decide +kernel
theorem dX2_shrink_27 : decode cX2_shrink 27 = .ok (.istore_n 2, 1) := by decide +kernel
theorem dX2_shrink_28 : decode cX2_shrink 28 = .ok (.iload_n 1, 1) := by decide +kernel
theorem dX2_shrink_29 : decode cX2_shrink 29 = .ok (.iconst 4, 1) := by decide +kernel
theorem dX2_shrink_30 : decode cX2_shrink 30 = .ok (.iload_n 2, 1) := by decide +kernel
theorem dX2_shrink_31 : decode cX2_shrink 31 = .ok (.ishl, 1) := by decide +kernel
theorem dX2_shrink_32 : decode cX2_shrink 32 = .ok (.isub, 1) := by decide +kernel
theorem dX2_shrink_33 : decode cX2_shrink 33 = .ok (.istore_n 3, 1) := by decide +kernel
theorem dX2_shrink_34 : decode cX2_shrink 34 = .ok (.aload_n 0, 1) := by decide +kernel
theorem dX2_shrink_35 : decode cX2_shrink 35 = .ok (.iload_n 3, 1) := by decide +kernel
theorem dX2_shrink_36 : decode cX2_shrink 36 = .ok (.iload_n 1, 1) := by decide +kernel
theorem dX2_shrink_37 : decode cX2_shrink 37 = .ok (.invokevirtual 125, 3) := by decide +kernel
theorem dX2_shrink_40 : decode cX2_shrink 40 = .ok (.ifCond .ne 4, 3) := by decide +kernel
theorem dX2_shrink_43 : decode cX2_shrink 43 = .ok (.return_, 1) := by decide +kernel
theorem dX2_shrink_44 : decode cX2_shrink 44 = .ok (.aload_n 0, 1) := by decide +kernel
theorem dX2_shrink_45 : decode cX2_shrink 45 = .ok (.iload_n 2, 1) := by decide +kernel
theorem dX2_shrink_46 : decode cX2_shrink 46 = .ok (.putfield 50, 3) := by decide +kernel
theorem dX2_shrink_49 : decode cX2_shrink 49 = .ok (.aload_n 0, 1) := by decide +kernel
theorem dX2_shrink_50 : decode cX2_shrink 50 = .ok (.iload_n 3, 1) := by decide +kernel
theorem dX2_shrink_51 : decode cX2_shrink 51 = .ok (.putfield 54, 3) := by decide +kernel
theorem dX2_shrink_54 : decode cX2_shrink 54 = .ok (.aload_n 0, 1) := by decide +kernel
theorem dX2_shrink_55 : decode cX2_shrink 55 = .ok (.getfield 33, 3) := by decide +kernel
theorem dX2_shrink_58 : decode cX2_shrink 58 = .ok (.iconst 0, 1) := by decide +kernel
theorem dX2_shrink_59 : decode cX2_shrink 59 = .ok (.putfield 114, 3) := by decide +kernel
theorem dX2_shrink_62 : decode cX2_shrink 62 = .ok (.aload_n 0, 1) := by decide +kernel
theorem dX2_shrink_63 : decode cX2_shrink 63 = .ok (.iload_n 3, 1) := by decide +kernel
theorem dX2_shrink_64 : decode cX2_shrink 64 = .ok (.invokevirtual 119, 3) := by decide +kernel
theorem dX2_shrink_67 : decode cX2_shrink 67 = .ok (.aload_n 0, 1) := by decide +kernel
theorem dX2_shrink_68 : decode cX2_shrink 68 = .ok (.iload_n 1, 1) := by decide +kernel
theorem dX2_shrink_69 : decode cX2_shrink 69 = .ok (.invokevirtual 119, 3) := by decide +kernel
theorem dX2_shrink_72 : decode cX2_shrink 72 = .ok (.iconst 0, 1) := by decide +kernel
theorem dX2_shrink_73 : decode cX2_shrink 73 = .ok (.istore 4, 2) := by decide +kernel
theorem dX2_shrink_75 : decode cX2_shrink 75 = .ok (.iload 4, 2) := by decide +kernel
theorem dX2_shrink_77 : decode cX2_shrink 77 = .ok (.aload_n 0, 1) := by decide +kernel
theorem dX2_shrink_78 : decode cX2_shrink 78 = .ok (.getfield 33, 3) := by decide +kernel
theorem dX2_shrink_81 : decode cX2_shrink 81 = .ok (.getfield 114, 3) := by decide +kernel
theorem dX2_shrink_84 : decode cX2_shrink 84 = .ok (.if_icmp .ge 42, 3) := by decide +kernel
theorem dX2_shrink_87 : decode cX2_shrink 87 = .ok (.iload 4, 2) := by decide +kernel
theorem dX2_shrink_89 : decode cX2_shrink 89 = .ok (.sipush 264, 3) := by decide +kernel
theorem dX2_shrink_92 : decode cX2_shrink 92 = .ok (.if_icmp .ge 34, 3) := by decide +kernel
theorem dX2_shrink_95 : decode cX2_shrink 95 = .ok (.aload_n 0, 1) := by decide +kernel
theorem dX2_shrink_96 : decode cX2_shrink 96 = .ok (.iload_n 3, 1) := by decide +kernel
theorem dX2_shrink_97 : decode cX2_shrink 97 = .ok (.aload_n 0, 1) := by decide +kernel
theorem dX2_shrink_98 : decode cX2_shrink 98 = .ok (.getfield 33, 3) := by decide +kernel
theorem dX2_shrink_101 : decode cX2_shrink 101 = .ok (.getfield 123, 3) := by decide +kernel
theorem dX2_shrink_104 : decode cX2_shrink 104 = .ok (.iload 4, 2) := by decide +kernel
theorem dX2_shrink_106 : decode cX2_shrink 106 = .ok (.iaload, 1) := by decide +kernel
theorem dX2_shrink_107 : decode cX2_shrink 107 = .ok (.aload_n 0, 1) := by decide +kernel
theorem dX2_shrink_108 : decode cX2_shrink 108 = .ok (.getfield 33, 3) := by decide +kernel
theorem dX2_shrink_111 : decode cX2_shrink 111 = .ok (.getfield 124, 3) := by decide +kernel
theorem dX2_shrink_114 : decode cX2_shrink 114 = .ok (.iload 4, 2) := by decide +kernel
theorem dX2_shrink_116 : decode cX2_shrink 116 = .ok (.iaload, 1) := by decide +kernel
theorem dX2_shrink_117 : decode cX2_shrink 117 = .ok (.invokevirtual 97, 3) := by decide +kernel
theorem dX2_shrink_120 : decode cX2_shrink 120 = .ok (.iinc 4 1, 3) := by decide +kernel
theorem dX2_shrink_123 : decode cX2_shrink 123 = .ok (.goto (-48), 3) := by decide +kernel
theorem dX2_shrink_126 : decode cX2_shrink 126 = .ok (.return_, 1) := by decide +kernel
set_option maxRecDepth 20000 in
theorem ggX2_canJoin_X2_pagesInChain : GoodIn wsX2_canJoin wsX2_pagesInChain := goodIn_r _ [9, 10, 11, 12, 13, 33, 34, 35, 36, 37, 38, 39, 40, 41, 42, 43] (by decide +kernel) (by decide +kernel)
set_option maxRecDepth 20000 in
theorem gX2_canJoin_X2_pagesInChain : GoodIn wsX2_canJoin (wsV RX2 72 RX2 yX2_pagesInChain wsX2_pagesInChain) := goodIn_app (goodIn_of _ (by decide +kernel)) ggX2_canJoin_X2_pagesInChain
set_option maxRecDepth 20000 in
theorem ggX2_canJoin_X2_lastPage : GoodIn wsX2_canJoin wsX2_lastPage := goodIn_r _ [17, 18, 19, 20, 21, 8, 22, 33, 34, 35, 36, 37, 38, 39, 40, 41, 42, 43] (by decide +kernel) (by decide +kernel)
set_option maxRecDepth 20000 in
theorem gX2_canJoin_X2_lastPage : GoodIn wsX2_canJoin (wsV RX2 76 RX2 yX2_lastPage wsX2_lastPage) := goodIn_app (goodIn_of _ (by decide +kernel)) ggX2_canJoin_X2_lastPage
set_option maxRecDepth 20000 in
theorem ggX2_canJoin_X2_entriesOnPage : GoodIn wsX2_canJoin wsX2_entriesOnPage := goodIn_r _ [26, 27, 11, 12, 13, 33, 34, 35, 36, 37, 38, 39, 40, 41, 42, 43] (by decide +kernel) (by decide +kernel)
set_option maxRecDepth 20000 in
theorem gX2_canJoin_X2_entriesOnPage : GoodIn wsX2_canJoin (wsV RX2 79 RX2 yX2_entriesOnPage wsX2_entriesOnPage) := goodIn_app (goodIn_of _ (by decide +kernel)) ggX2_canJoin_X2_entriesOnPage
set_option maxRecDepth 20000 in
theorem ggX2_canJoin_X2_freePages : GoodIn wsX2_canJoin wsX2_freePages := goodIn_r _ [31, 32, 19, 33, 34, 35, 36, 37, 38, 39, 40, 41, 42, 43] (by decide +kernel) (by decide +kernel)
set_option maxRecDepth 20000 in
theorem gX2_canJoin_X2_freePages : GoodIn wsX2_canJoin (wsV RX2 129 RX2 yX2_freePages wsX2_freePages) := goodIn_app (goodIn_of _ (by decide +kernel)) ggX2_canJoin_X2_freePages
theorem dX2_canJoin_0 : decode cX2_canJoin 0 = .ok (.aload_n 0, 1) := by decide +kernel
theorem dX2_canJoin_1 : decode cX2_canJoin 1 = .ok (.iload_n 1, 1) := by decide +kernel
theorem dX2_canJoin_2 : decode cX2_canJoin 2 = .ok (.invokevirtual 72, 3) := by decide +kernel
theorem dX2_canJoin_5 : decode cX2_canJoin 5 = .ok (.aload_n 0, 1) := by decide +kernel
theorem dX2_canJoin_6 : decode cX2_canJoin 6 = .ok (.iload_n 2, 1) := by decide +kernel
theorem dX2_canJoin_7 : decode cX2_canJoin 7 = .ok (.invokevirtual 72, 3) := by decide +kernel
theorem dX2_canJoin_10 : decode cX2_canJoin 10 = .ok (.iadd, 1) := by decide +kernel
theorem dX2_canJoin_11 : decode cX2_canJoin 11 = .ok (.iconst 2, 1) := by decide +kernel
theorem dX2_canJoin_12 : decode cX2_canJoin 12 = .ok (.isub, 1) := by decide +kernel
theorem dX2_canJoin_13 : decode cX2_canJoin 13 = .ok (.istore_n 3, 1) := by decide +kernel
theorem dX2_canJoin_14 : decode cX2_canJoin 14 = .ok (.iload_n 3, 1) := by decide +kernel
theorem dX2_canJoin_15 : decode cX2_canJoin 15 = .ok (.iconst 4, 1) := by decide +kernel
theorem dX2_canJoin_16 : decode cX2_canJoin 16 = .ok (.imul, 1) := by decide +kernel
theorem dX2_canJoin_17 : decode cX2_canJoin 17 = .ok (.aload_n 0, 1) := by decide +kernel
theorem dX2_canJoin_18 : decode cX2_canJoin 18 = .ok (.aload_n 0, 1) := by decide +kernel
theorem dX2_canJoin_19 : decode cX2_canJoin 19 = .ok (.iload_n 1, 1) := by decide +kernel
theorem dX2_canJoin_20 : decode cX2_canJoin 20 = .ok (.invokevirtual 76, 3) := by decide +kernel
theorem dX2_canJoin_23 : decode cX2_canJoin 23 = .ok (.invokevirtual 79, 3) := by decide +kernel
theorem dX2_canJoin_26 : decode cX2_canJoin 26 = .ok (.iadd, 1) := by decide +kernel
theorem dX2_canJoin_27 : decode cX2_canJoin 27 = .ok (.aload_n 0, 1) := by decide +kernel
theorem dX2_canJoin_28 : decode cX2_canJoin 28 = .ok (.aload_n 0, 1) := by decide +kernel
theorem dX2_canJoin_29 : decode cX2_canJoin 29 = .ok (.iload_n 2, 1) := by decide +kernel
theorem dX2_canJoin_30 : decode cX2_canJoin 30 = .ok (.invokevirtual 76, 3) := by decide +kernel
theorem dX2_canJoin_33 : decode cX2_canJoin 33 = .ok (.invokevirtual 79, 3) := by decide +kernel
theorem dX2_canJoin_36 : decode cX2_canJoin 36 = .ok (.iadd, 1) := by decide +kernel
theorem dX2_canJoin_37 : decode cX2_canJoin 37 = .ok (.istore 4, 2) := by decide +kernel
theorem dX2_canJoin_39 : decode cX2_canJoin 39 = .ok (.iconst 0, 1) := by decide +kernel
theorem dX2_canJoin_40 : decode cX2_canJoin 40 = .ok (.iload 4, 2) := by decide +kernel
theorem dX2_canJoin_42 : decode cX2_canJoin 42 = .ok (.iconst 4, 1) := by decide +kernel
theorem dX2_canJoin_43 : decode cX2_canJoin 43 = .ok (.iadd, 1) := by decide +kernel
theorem dX2_canJoin_44 : decode cX2_canJoin 44 = .ok (.iconst 1, 1) := by decide +kernel
theorem dX2_canJoin_45 : decode cX2_canJoin 45 = .ok (.isub, 1) := by decide +kernel
theorem dX2_canJoin_46 : decode cX2_canJoin 46 = .ok (.iconst 4, 1) := by decide +kernel
theorem dX2_canJoin_47 : decode cX2_canJoin 47 = .ok (.idiv, 1) := by decide +kernel
theorem dX2_canJoin_48 : decode cX2_canJoin 48 = .ok (.iconst 1, 1) := by decide +kernel
theorem dX2_canJoin_49 : decode cX2_canJoin 49 = .ok (.isub, 1) := by decide +kernel
theorem dX2_canJoin_50 : decode cX2_canJoin 50 = .ok (.invokestatic 82, 3) := by decide +kernel
theorem dX2_canJoin_53 : decode cX2_canJoin 53 = .ok (.istore 5, 2) := by decide +kernel
theorem dX2_canJoin_55 : decode cX2_canJoin 55 = .ok (.iload 5, 2) := by decide +kernel
theorem dX2_canJoin_57 : decode cX2_canJoin 57 = .ok (.aload_n 0, 1) := by decide +kernel
theorem dX2_canJoin_58 : decode cX2_canJoin 58 = .ok (.invokevirtual 129, 3) := by decide +kernel
theorem dX2_canJoin_61 : decode cX2_canJoin 61 = .ok (.iload_n 3, 1) := by decide +kernel
theorem dX2_canJoin_62 : decode cX2_canJoin 62 = .ok (.iadd, 1) := by decide +kernel
theorem dX2_canJoin_63 : decode cX2_canJoin 63 = .ok (.if_icmp .gt 7, 3) := by decide +kernel
theorem dX2_canJoin_66 : decode cX2_canJoin 66 = .ok (.iconst 1, 1) := by decide +kernel
theorem dX2_canJoin_67 : decode cX2_canJoin 67 = .ok (.goto 4, 3) := by decide +kernel
theorem dX2_canJoin_70 : decode cX2_canJoin 70 = .ok (.iconst 0, 1) := by decide +kernel
theorem dX2_canJoin_71 : decode cX2_canJoin 71 = .ok (.ireturn, 1) := by decide +kernel
set_option maxRecDepth 20000 in
theorem ggX2_setAside_X2_isBucketPlace : GoodIn wsX2_setAside wsX2_isBucketPlace := goodIn_r _ [11] (by decide +kernel) (by decide +kernel)
set_option maxRecDepth 20000 in
theorem gX2_setAside_X2_isBucketPlace : GoodIn wsX2_setAside (va_wsS RX2 69 yX2_isBucketPlace wsX2_isBucketPlace) := goodIn_app (goodIn_of _ (by decide +kernel)) ggX2_setAside_X2_isBucketPlace
set_option maxRecDepth 20000 in
theorem ggX2_setAside_X3_isPage : GoodIn wsX2_setAside wsX3_isPage := goodIn_r _ [14] (by decide +kernel) (by decide +kernel)
set_option maxRecDepth 20000 in
theorem gX2_setAside_X3_isPage_n61 : GoodIn wsX2_setAside (wsX3_isPage) := ggX2_setAside_X3_isPage
set_option maxRecDepth 20000 in
theorem ggX2_setAside_X0_push : GoodIn wsX2_setAside wsX0_push := goodIn_r _ [19, 20, 21, 22, 41, 42, 43] (by decide +kernel) (by decide +kernel)
set_option maxRecDepth 20000 in
theorem gX2_setAside_X0_push : GoodIn wsX2_setAside (wsV RX2 132 RX0 yX0_push wsX0_push) := goodIn_app (goodIn_of _ (by decide +kernel)) ggX2_setAside_X0_push
set_option maxRecDepth 20000 in
theorem ggX2_setAside_X2_clearPage : GoodIn wsX2_setAside wsX2_clearPage := goodIn_r _ [26, 1, 6, 27, 28, 29, 12, 13, 14, 30, 31, 32, 33, 34, 35, 36, 37, 38, 39, 40] (by decide +kernel) (by decide +kernel)
set_option maxRecDepth 20000 in
theorem gX2_setAside_X2_clearPage : GoodIn wsX2_setAside (wsV RX2 135 RX2 yX2_clearPage wsX2_clearPage) := goodIn_app (goodIn_of _ (by decide +kernel)) ggX2_setAside_X2_clearPage
theorem dX2_setAside_0 : decode cX2_setAside 0 = .ok (.iload_n 1, 1) := by decide +kernel
theorem dX2_setAside_1 : decode cX2_setAside 1 = .ok (.invokestatic 69, 3) := by decide +kernel
theorem dX2_setAside_4 : decode cX2_setAside 4 = .ok (.ifCond .ne 4, 3) := by decide +kernel
theorem dX2_setAside_7 : decode cX2_setAside 7 = .ok (.return_, 1) := by decide +kernel
theorem dX2_setAside_8 : decode cX2_setAside 8 = .ok (.iload_n 1, 1) := by decide +kernel
theorem dX2_setAside_9 : decode cX2_setAside 9 = .ok (.istore_n 2, 1) := by decide +kernel
theorem dX2_setAside_10 : decode cX2_setAside 10 = .ok (.iconst 0, 1) := by decide +kernel
theorem dX2_setAside_11 : decode cX2_setAside 11 = .ok (.istore_n 3, 1) := by decide +kernel
theorem dX2_setAside_12 : decode cX2_setAside 12 = .ok (.iload_n 3, 1) := by decide +kernel
theorem dX2_setAside_13 : decode cX2_setAside 13 = .ok (.sipush 128, 3) := by decide +kernel
theorem dX2_setAside_16 : decode cX2_setAside 16 = .ok (.if_icmp .ge 102, 3) := by decide +kernel
theorem dX2_setAside_19 : decode cX2_setAside 19 = .ok (.iload_n 2, 1) := by decide +kernel
theorem dX2_setAside_20 : decode cX2_setAside 20 = .ok (.invokestatic 61, 3) := by decide +kernel
theorem dX2_setAside_23 : decode cX2_setAside 23 = .ok (.ifCond .eq 95, 3) := by decide +kernel
theorem dX2_setAside_26 : decode cX2_setAside 26 = .ok (.iconst 0, 1) := by decide +kernel
theorem dX2_setAside_27 : decode cX2_setAside 27 = .ok (.istore 4, 2) := by decide +kernel
theorem dX2_setAside_29 : decode cX2_setAside 29 = .ok (.iload 4, 2) := by decide +kernel
theorem dX2_setAside_31 : decode cX2_setAside 31 = .ok (.iconst 4, 1) := by decide +kernel
theorem dX2_setAside_32 : decode cX2_setAside 32 = .ok (.if_icmp .ge 49, 3) := by decide +kernel
theorem dX2_setAside_35 : decode cX2_setAside 35 = .ok (.iload 4, 2) := by decide +kernel
theorem dX2_setAside_37 : decode cX2_setAside 37 = .ok (.aload_n 0, 1) := by decide +kernel
theorem dX2_setAside_38 : decode cX2_setAside 38 = .ok (.getfield 18, 3) := by decide +kernel
theorem dX2_setAside_41 : decode cX2_setAside 41 = .ok (.iload_n 2, 1) := by decide +kernel
theorem dX2_setAside_42 : decode cX2_setAside 42 = .ok (.iaload, 1) := by decide +kernel
theorem dX2_setAside_43 : decode cX2_setAside 43 = .ok (.if_icmp .ge 38, 3) := by decide +kernel
theorem dX2_setAside_46 : decode cX2_setAside 46 = .ok (.aload_n 0, 1) := by decide +kernel
theorem dX2_setAside_47 : decode cX2_setAside 47 = .ok (.getfield 33, 3) := by decide +kernel
theorem dX2_setAside_50 : decode cX2_setAside 50 = .ok (.aload_n 0, 1) := by decide +kernel
theorem dX2_setAside_51 : decode cX2_setAside 51 = .ok (.getfield 9, 3) := by decide +kernel
theorem dX2_setAside_54 : decode cX2_setAside 54 = .ok (.iload_n 2, 1) := by decide +kernel
theorem dX2_setAside_55 : decode cX2_setAside 55 = .ok (.iconst 4, 1) := by decide +kernel
theorem dX2_setAside_56 : decode cX2_setAside 56 = .ok (.imul, 1) := by decide +kernel
theorem dX2_setAside_57 : decode cX2_setAside 57 = .ok (.iload 4, 2) := by decide +kernel
theorem dX2_setAside_59 : decode cX2_setAside 59 = .ok (.iadd, 1) := by decide +kernel
theorem dX2_setAside_60 : decode cX2_setAside 60 = .ok (.iaload, 1) := by decide +kernel
theorem dX2_setAside_61 : decode cX2_setAside 61 = .ok (.aload_n 0, 1) := by decide +kernel
theorem dX2_setAside_62 : decode cX2_setAside 62 = .ok (.getfield 15, 3) := by decide +kernel
theorem dX2_setAside_65 : decode cX2_setAside 65 = .ok (.iload_n 2, 1) := by decide +kernel
theorem dX2_setAside_66 : decode cX2_setAside 66 = .ok (.iconst 4, 1) := by decide +kernel
theorem dX2_setAside_67 : decode cX2_setAside 67 = .ok (.imul, 1) := by decide +kernel
theorem dX2_setAside_68 : decode cX2_setAside 68 = .ok (.iload 4, 2) := by decide +kernel
theorem dX2_setAside_70 : decode cX2_setAside 70 = .ok (.iadd, 1) := by decide +kernel
theorem dX2_setAside_71 : decode cX2_setAside 71 = .ok (.iaload, 1) := by decide +kernel
theorem dX2_setAside_72 : decode cX2_setAside 72 = .ok (.invokevirtual 132, 3) := by decide +kernel
theorem dX2_setAside_75 : decode cX2_setAside 75 = .ok (.iinc 4 1, 3) := by decide +kernel
theorem dX2_setAside_78 : decode cX2_setAside 78 = .ok (.goto (-49), 3) := by decide +kernel
theorem dX2_setAside_81 : decode cX2_setAside 81 = .ok (.aload_n 0, 1) := by decide +kernel
theorem dX2_setAside_82 : decode cX2_setAside 82 = .ok (.dup, 1) := by decide +kernel
theorem dX2_setAside_83 : decode cX2_setAside 83 = .ok (.getfield 57, 3) := by decide +kernel
theorem dX2_setAside_86 : decode cX2_setAside 86 = .ok (.aload_n 0, 1) := by decide +kernel
theorem dX2_setAside_87 : decode cX2_setAside 87 = .ok (.getfield 18, 3) := by decide +kernel
theorem dX2_setAside_90 : decode cX2_setAside 90 = .ok (.iload_n 2, 1) := by decide +kernel
theorem dX2_setAside_91 : decode cX2_setAside 91 = .ok (.iaload, 1) := by decide +kernel
theorem dX2_setAside_92 : decode cX2_setAside 92 = .ok (.isub, 1) := by decide +kernel
theorem dX2_setAside_93 : decode cX2_setAside 93 = .ok (.putfield 57, 3) := by decide +kernel
theorem dX2_setAside_96 : decode cX2_setAside 96 = .ok (.aload_n 0, 1) := by decide +kernel
theorem dX2_setAside_97 : decode cX2_setAside 97 = .ok (.getfield 21, 3) := by decide +kernel
theorem dX2_setAside_100 : decode cX2_setAside 100 = .ok (.iload_n 2, 1) := by decide +kernel
theorem dX2_setAside_101 : decode cX2_setAside 101 = .ok (.iaload, 1) := by decide +kernel
theorem dX2_setAside_102 : decode cX2_setAside 102 = .ok (.istore 4, 2) := by decide +kernel
theorem dX2_setAside_104 : decode cX2_setAside 104 = .ok (.aload_n 0, 1) := by decide +kernel
theorem dX2_setAside_105 : decode cX2_setAside 105 = .ok (.iload_n 2, 1) := by decide +kernel
theorem dX2_setAside_106 : decode cX2_setAside 106 = .ok (.invokevirtual 135, 3) := by decide +kernel
theorem dX2_setAside_109 : decode cX2_setAside 109 = .ok (.iload 4, 2) := by decide +kernel
theorem dX2_setAside_111 : decode cX2_setAside 111 = .ok (.istore_n 2, 1) := by decide +kernel
theorem dX2_setAside_112 : decode cX2_setAside 112 = .ok (.iinc 3 1, 3) := by decide +kernel
theorem dX2_setAside_115 : decode cX2_setAside 115 = .ok (.goto (-103), 3) := by decide +kernel
theorem dX2_setAside_118 : decode cX2_setAside 118 = .ok (.aload_n 0, 1) := by decide +kernel
theorem dX2_setAside_119 : decode cX2_setAside 119 = .ok (.getfield 30, 3) := by decide +kernel
theorem dX2_setAside_122 : decode cX2_setAside 122 = .ok (.iload_n 1, 1) := by decide +kernel
theorem dX2_setAside_123 : decode cX2_setAside 123 = .ok (.iload_n 1, 1) := by decide +kernel
theorem dX2_setAside_124 : decode cX2_setAside 124 = .ok (.iastore, 1) := by decide +kernel
theorem dX2_setAside_125 : decode cX2_setAside 125 = .ok (.return_, 1) := by decide +kernel
set_option maxRecDepth 20000 in
theorem ggX2_clearPage_X3_isPage : GoodIn wsX2_clearPage wsX3_isPage := goodIn_r _ [8] (by decide +kernel) (by decide +kernel)
set_option maxRecDepth 20000 in
theorem gX2_clearPage_X3_isPage_n61 : GoodIn wsX2_clearPage (wsX3_isPage) := ggX2_clearPage_X3_isPage
theorem dX2_clearPage_0 : decode cX2_clearPage 0 = .ok (.iload_n 1, 1) := by decide +kernel
theorem dX2_clearPage_1 : decode cX2_clearPage 1 = .ok (.invokestatic 61, 3) := by decide +kernel
theorem dX2_clearPage_4 : decode cX2_clearPage 4 = .ok (.ifCond .eq 34, 3) := by decide +kernel
theorem dX2_clearPage_7 : decode cX2_clearPage 7 = .ok (.aload_n 0, 1) := by decide +kernel
theorem dX2_clearPage_8 : decode cX2_clearPage 8 = .ok (.getfield 18, 3) := by decide +kernel
theorem dX2_clearPage_11 : decode cX2_clearPage 11 = .ok (.iload_n 1, 1) := by decide +kernel
theorem dX2_clearPage_12 : decode cX2_clearPage 12 = .ok (.iconst 0, 1) := by decide +kernel
theorem dX2_clearPage_13 : decode cX2_clearPage 13 = .ok (.iastore, 1) := by decide +kernel
theorem dX2_clearPage_14 : decode cX2_clearPage 14 = .ok (.aload_n 0, 1) := by decide +kernel
theorem dX2_clearPage_15 : decode cX2_clearPage 15 = .ok (.getfield 21, 3) := by decide +kernel
theorem dX2_clearPage_18 : decode cX2_clearPage 18 = .ok (.iload_n 1, 1) := by decide +kernel
theorem dX2_clearPage_19 : decode cX2_clearPage 19 = .ok (.ldc 37, 2) := by decide +kernel
theorem dX2_clearPage_21 : decode cX2_clearPage 21 = .ok (.iastore, 1) := by decide +kernel
theorem dX2_clearPage_22 : decode cX2_clearPage 22 = .ok (.aload_n 0, 1) := by decide +kernel
theorem dX2_clearPage_23 : decode cX2_clearPage 23 = .ok (.getfield 24, 3) := by decide +kernel
theorem dX2_clearPage_26 : decode cX2_clearPage 26 = .ok (.iload_n 1, 1) := by decide +kernel
theorem dX2_clearPage_27 : decode cX2_clearPage 27 = .ok (.ldc 37, 2) := by decide +kernel
theorem dX2_clearPage_29 : decode cX2_clearPage 29 = .ok (.iastore, 1) := by decide +kernel
theorem dX2_clearPage_30 : decode cX2_clearPage 30 = .ok (.aload_n 0, 1) := by decide +kernel
theorem dX2_clearPage_31 : decode cX2_clearPage 31 = .ok (.getfield 27, 3) := by decide +kernel
theorem dX2_clearPage_34 : decode cX2_clearPage 34 = .ok (.iload_n 1, 1) := by decide +kernel
theorem dX2_clearPage_35 : decode cX2_clearPage 35 = .ok (.ldc 37, 2) := by decide +kernel
theorem dX2_clearPage_37 : decode cX2_clearPage 37 = .ok (.iastore, 1) := by decide +kernel
theorem dX2_clearPage_38 : decode cX2_clearPage 38 = .ok (.return_, 1) := by decide +kernel
set_option maxRecDepth 20000 in
theorem ggX2_append_X2_lastPage : GoodIn wsX2_append wsX2_lastPage := goodIn_r _ [9, 10, 11, 12, 13, 8, 14, 33, 34, 35, 36, 37, 38, 39, 40, 41, 42, 43] (by decide +kernel) (by decide +kernel)
set_option maxRecDepth 20000 in
theorem gX2_append_X2_lastPage : GoodIn wsX2_append (wsV RX2 76 RX2 yX2_lastPage wsX2_lastPage) := goodIn_app (goodIn_of _ (by decide +kernel)) ggX2_append_X2_lastPage
set_option maxRecDepth 20000 in
theorem ggX2_append_X2_entriesOnPage : GoodIn wsX2_append wsX2_entriesOnPage := goodIn_r _ [18, 1, 19, 20, 21, 33, 34, 35, 36, 37, 38, 39, 40, 41, 42, 43] (by decide +kernel) (by decide +kernel)
set_option maxRecDepth 20000 in
theorem gX2_append_X2_entriesOnPage : GoodIn wsX2_append (wsV RX2 79 RX2 yX2_entriesOnPage wsX2_entriesOnPage) := goodIn_app (goodIn_of _ (by decide +kernel)) ggX2_append_X2_entriesOnPage
set_option maxRecDepth 20000 in
theorem ggX2_append_X2_linkNewPage : GoodIn wsX2_append wsX2_linkNewPage := goodIn_r _ [25, 26, 27, 28, 10, 29, 30, 31, 8, 32, 11, 19, 20, 21, 12, 13, 14, 33, 34, 35, 36, 37, 38, 39, 40, 41, 42, 43] (by decide +kernel) (by decide +kernel)
set_option maxRecDepth 20000 in
theorem gX2_append_X2_linkNewPage : GoodIn wsX2_append (wsV RX2 138 RX2 yX2_linkNewPage wsX2_linkNewPage) := goodIn_app (goodIn_of _ (by decide +kernel)) ggX2_append_X2_linkNewPage
set_option maxRecDepth 20000 in
theorem ggX2_append_X3_isPage : GoodIn wsX2_append wsX3_isPage := goodIn_r _ [21] (by decide +kernel) (by decide +kernel)
set_option maxRecDepth 20000 in
theorem gX2_append_X3_isPage_n61 : GoodIn wsX2_append (wsX3_isPage) := ggX2_append_X3_isPage
theorem dX2_append_0 : decode cX2_append 0 = .ok (.aload_n 0, 1) := by decide +kernel
theorem dX2_append_1 : decode cX2_append 1 = .ok (.iload_n 1, 1) := by decide +kernel
theorem dX2_append_2 : decode cX2_append 2 = .ok (.invokevirtual 76, 3) := by decide +kernel
theorem dX2_append_5 : decode cX2_append 5 = .ok (.istore 4, 2) := by decide +kernel
theorem dX2_append_7 : decode cX2_append 7 = .ok (.aload_n 0, 1) := by decide +kernel
theorem dX2_append_8 : decode cX2_append 8 = .ok (.iload 4, 2) := by decide +kernel
theorem dX2_append_10 : decode cX2_append 10 = .ok (.invokevirtual 79, 3) := by decide +kernel
theorem dX2_append_13 : decode cX2_append 13 = .ok (.iconst 4, 1) := by decide +kernel
theorem dX2_append_14 : decode cX2_append 14 = .ok (.if_icmp .lt 12, 3) := by decide +kernel
theorem dX2_append_17 : decode cX2_append 17 = .ok (.aload_n 0, 1) := by decide +kernel
theorem dX2_append_18 : decode cX2_append 18 = .ok (.iload_n 1, 1) := by decide +kernel
theorem dX2_append_19 : decode cX2_append 19 = .ok (.iload 4, 2) := by decide +kernel
theorem dX2_append_21 : decode cX2_append 21 = .ok (.invokevirtual 138, 3) := by decide +kernel
theorem dX2_append_24 : decode cX2_append 24 = .ok (.istore 4, 2) := by decide +kernel
theorem dX2_append_26 : decode cX2_append 26 = .ok (.iload 4, 2) := by decide +kernel
theorem dX2_append_28 : decode cX2_append 28 = .ok (.invokestatic 61, 3) := by decide +kernel
theorem dX2_append_31 : decode cX2_append 31 = .ok (.ifCond .ne 4, 3) := by decide +kernel
theorem dX2_append_34 : decode cX2_append 34 = .ok (.return_, 1) := by decide +kernel
theorem dX2_append_35 : decode cX2_append 35 = .ok (.iload 4, 2) := by decide +kernel
theorem dX2_append_37 : decode cX2_append 37 = .ok (.iconst 4, 1) := by decide +kernel
theorem dX2_append_38 : decode cX2_append 38 = .ok (.imul, 1) := by decide +kernel
theorem dX2_append_39 : decode cX2_append 39 = .ok (.aload_n 0, 1) := by decide +kernel
theorem dX2_append_40 : decode cX2_append 40 = .ok (.getfield 18, 3) := by decide +kernel
theorem dX2_append_43 : decode cX2_append 43 = .ok (.iload 4, 2) := by decide +kernel
theorem dX2_append_45 : decode cX2_append 45 = .ok (.iaload, 1) := by decide +kernel
theorem dX2_append_46 : decode cX2_append 46 = .ok (.iadd, 1) := by decide +kernel
theorem dX2_append_47 : decode cX2_append 47 = .ok (.istore 5, 2) := by decide +kernel
theorem dX2_append_49 : decode cX2_append 49 = .ok (.iload 5, 2) := by decide +kernel
theorem dX2_append_51 : decode cX2_append 51 = .ok (.ifCond .lt 50, 3) := by decide +kernel
theorem dX2_append_54 : decode cX2_append 54 = .ok (.iload 5, 2) := by decide +kernel
theorem dX2_append_56 : decode cX2_append 56 = .ok (.aload_n 0, 1) := by decide +kernel
theorem dX2_append_57 : decode cX2_append 57 = .ok (.getfield 9, 3) := by decide +kernel
theorem dX2_append_60 : decode cX2_append 60 = .ok (.arraylength, 1) := by decide +kernel
theorem dX2_append_61 : decode cX2_append 61 = .ok (.if_icmp .ge 40, 3) := by decide +kernel
theorem dX2_append_64 : decode cX2_append 64 = .ok (.aload_n 0, 1) := by decide +kernel
theorem dX2_append_65 : decode cX2_append 65 = .ok (.getfield 9, 3) := by decide +kernel
theorem dX2_append_68 : decode cX2_append 68 = .ok (.iload 5, 2) := by decide +kernel
theorem dX2_append_70 : decode cX2_append 70 = .ok (.iload_n 2, 1) := by decide +kernel
theorem dX2_append_71 : decode cX2_append 71 = .ok (.iastore, 1) := by decide +kernel
theorem dX2_append_72 : decode cX2_append 72 = .ok (.aload_n 0, 1) := by decide +kernel
theorem dX2_append_73 : decode cX2_append 73 = .ok (.getfield 15, 3) := by decide +kernel
theorem dX2_append_76 : decode cX2_append 76 = .ok (.iload 5, 2) := by decide +kernel
theorem dX2_append_78 : decode cX2_append 78 = .ok (.iload_n 3, 1) := by decide +kernel
theorem dX2_append_79 : decode cX2_append 79 = .ok (.iastore, 1) := by decide +kernel
theorem dX2_append_80 : decode cX2_append 80 = .ok (.aload_n 0, 1) := by decide +kernel
theorem dX2_append_81 : decode cX2_append 81 = .ok (.getfield 18, 3) := by decide +kernel
theorem dX2_append_84 : decode cX2_append 84 = .ok (.iload 4, 2) := by decide +kernel
theorem dX2_append_86 : decode cX2_append 86 = .ok (.dup2, 1) := by decide +kernel
theorem dX2_append_87 : decode cX2_append 87 = .ok (.iaload, 1) := by decide +kernel
theorem dX2_append_88 : decode cX2_append 88 = .ok (.iconst 1, 1) := by decide +kernel
theorem dX2_append_89 : decode cX2_append 89 = .ok (.iadd, 1) := by decide +kernel
theorem dX2_append_90 : decode cX2_append 90 = .ok (.iastore, 1) := by decide +kernel
theorem dX2_append_91 : decode cX2_append 91 = .ok (.aload_n 0, 1) := by decide +kernel
theorem dX2_append_92 : decode cX2_append 92 = .ok (.dup, 1) := by decide +kernel
theorem dX2_append_93 : decode cX2_append 93 = .ok (.getfield 57, 3) := by decide +kernel
theorem dX2_append_96 : decode cX2_append 96 = .ok (.iconst 1, 1) := by decide +kernel
theorem dX2_append_97 : decode cX2_append 97 = .ok (.iadd, 1) := by decide +kernel
theorem dX2_append_98 : decode cX2_append 98 = .ok (.putfield 57, 3) := by decide +kernel
theorem dX2_append_101 : decode cX2_append 101 = .ok (.return_, 1) := by decide +kernel
set_option maxRecDepth 20000 in
theorem ggX2_linkNewPage_X2_leastFreePage : GoodIn wsX2_linkNewPage wsX2_leastFreePage := goodIn_r _ [9, 3, 10, 17, 18, 19, 20, 21, 22, 23, 24, 25, 26, 27] (by decide +kernel) (by decide +kernel)
set_option maxRecDepth 20000 in
theorem gX2_linkNewPage_X2_leastFreePage : GoodIn wsX2_linkNewPage (wsV RX2 91 RX2 yX2_leastFreePage wsX2_leastFreePage) := goodIn_app (goodIn_of _ (by decide +kernel)) ggX2_linkNewPage_X2_leastFreePage
set_option maxRecDepth 20000 in
theorem ggX2_linkNewPage_X3_isPage : GoodIn wsX2_linkNewPage wsX3_isPage := goodIn_r _ [13] (by decide +kernel) (by decide +kernel)
set_option maxRecDepth 20000 in
theorem gX2_linkNewPage_X3_isPage_n61 : GoodIn wsX2_linkNewPage (wsX3_isPage) := ggX2_linkNewPage_X3_isPage
set_option maxRecDepth 20000 in
theorem ggX2_linkNewPage_X2_isBucketPlace : GoodIn wsX2_linkNewPage wsX2_isBucketPlace := goodIn_r _ [16] (by decide +kernel) (by decide +kernel)
set_option maxRecDepth 20000 in
theorem gX2_linkNewPage_X2_isBucketPlace : GoodIn wsX2_linkNewPage (va_wsS RX2 69 yX2_isBucketPlace wsX2_isBucketPlace) := goodIn_app (goodIn_of _ (by decide +kernel)) ggX2_linkNewPage_X2_isBucketPlace
theorem dX2_linkNewPage_0 : decode cX2_linkNewPage 0 = .ok (.aload_n 0, 1) := by decide +kernel
theorem dX2_linkNewPage_1 : decode cX2_linkNewPage 1 = .ok (.invokevirtual 91, 3) := by decide +kernel
theorem dX2_linkNewPage_4 : decode cX2_linkNewPage 4 = .ok (.istore_n 3, 1) := by decide +kernel
theorem dX2_linkNewPage_5 : decode cX2_linkNewPage 5 = .ok (.iload_n 3, 1) := by decide +kernel
theorem dX2_linkNewPage_6 : decode cX2_linkNewPage 6 = .ok (.invokestatic 61, 3) := by decide +kernel
theorem dX2_linkNewPage_9 : decode cX2_linkNewPage 9 = .ok (.ifCond .eq 45, 3) := by decide +kernel
theorem dX2_linkNewPage_12 : decode cX2_linkNewPage 12 = .ok (.iload_n 2, 1) := by decide +kernel
theorem dX2_linkNewPage_13 : decode cX2_linkNewPage 13 = .ok (.invokestatic 61, 3) := by decide +kernel
theorem dX2_linkNewPage_16 : decode cX2_linkNewPage 16 = .ok (.ifCond .eq 38, 3) := by decide +kernel
theorem dX2_linkNewPage_19 : decode cX2_linkNewPage 19 = .ok (.iload_n 1, 1) := by decide +kernel
theorem dX2_linkNewPage_20 : decode cX2_linkNewPage 20 = .ok (.invokestatic 69, 3) := by decide +kernel
theorem dX2_linkNewPage_23 : decode cX2_linkNewPage 23 = .ok (.ifCond .eq 31, 3) := by decide +kernel
theorem dX2_linkNewPage_26 : decode cX2_linkNewPage 26 = .ok (.aload_n 0, 1) := by decide +kernel
theorem dX2_linkNewPage_27 : decode cX2_linkNewPage 27 = .ok (.getfield 21, 3) := by decide +kernel
theorem dX2_linkNewPage_30 : decode cX2_linkNewPage 30 = .ok (.iload_n 2, 1) := by decide +kernel
theorem dX2_linkNewPage_31 : decode cX2_linkNewPage 31 = .ok (.iload_n 3, 1) := by decide +kernel
theorem dX2_linkNewPage_32 : decode cX2_linkNewPage 32 = .ok (.iastore, 1) := by decide +kernel
theorem dX2_linkNewPage_33 : decode cX2_linkNewPage 33 = .ok (.aload_n 0, 1) := by decide +kernel
theorem dX2_linkNewPage_34 : decode cX2_linkNewPage 34 = .ok (.getfield 24, 3) := by decide +kernel
theorem dX2_linkNewPage_37 : decode cX2_linkNewPage 37 = .ok (.iload_n 3, 1) := by decide +kernel
theorem dX2_linkNewPage_38 : decode cX2_linkNewPage 38 = .ok (.iload_n 2, 1) := by decide +kernel
theorem dX2_linkNewPage_39 : decode cX2_linkNewPage 39 = .ok (.iastore, 1) := by decide +kernel
theorem dX2_linkNewPage_40 : decode cX2_linkNewPage 40 = .ok (.aload_n 0, 1) := by decide +kernel
theorem dX2_linkNewPage_41 : decode cX2_linkNewPage 41 = .ok (.getfield 27, 3) := by decide +kernel
theorem dX2_linkNewPage_44 : decode cX2_linkNewPage 44 = .ok (.iload_n 3, 1) := by decide +kernel
theorem dX2_linkNewPage_45 : decode cX2_linkNewPage 45 = .ok (.iload_n 1, 1) := by decide +kernel
theorem dX2_linkNewPage_46 : decode cX2_linkNewPage 46 = .ok (.iastore, 1) := by decide +kernel
theorem dX2_linkNewPage_47 : decode cX2_linkNewPage 47 = .ok (.aload_n 0, 1) := by decide +kernel
theorem dX2_linkNewPage_48 : decode cX2_linkNewPage 48 = .ok (.getfield 30, 3) := by decide +kernel
theorem dX2_linkNewPage_51 : decode cX2_linkNewPage 51 = .ok (.iload_n 1, 1) := by decide +kernel
theorem dX2_linkNewPage_52 : decode cX2_linkNewPage 52 = .ok (.iload_n 3, 1) := by decide +kernel
theorem dX2_linkNewPage_53 : decode cX2_linkNewPage 53 = .ok (.iastore, 1) := by decide +kernel
theorem dX2_linkNewPage_54 : decode cX2_linkNewPage 54 = .ok (.iload_n 3, 1) := by decide +kernel
theorem dX2_linkNewPage_55 : decode cX2_linkNewPage 55 = .ok (.ireturn, 1) := by decide +kernel
set_option maxRecDepth 20000 in
theorem ggX2_takeOut_X2_lastPage : GoodIn wsX2_takeOut wsX2_lastPage := goodIn_r _ [9, 10, 11, 12, 13, 8, 14, 29, 30, 31, 32, 33, 34, 35, 36, 37, 38, 39] (by decide +kernel) (by decide +kernel)
set_option maxRecDepth 20000 in
theorem gX2_takeOut_X2_lastPage : GoodIn wsX2_takeOut (wsV RX2 76 RX2 yX2_lastPage wsX2_lastPage) := goodIn_app (goodIn_of _ (by decide +kernel)) ggX2_takeOut_X2_lastPage
set_option maxRecDepth 20000 in
theorem ggX2_takeOut_X3_isPage : GoodIn wsX2_takeOut wsX3_isPage := goodIn_r _ [17] (by decide +kernel) (by decide +kernel)
set_option maxRecDepth 20000 in
theorem gX2_takeOut_X3_isPage_n61 : GoodIn wsX2_takeOut (wsX3_isPage) := ggX2_takeOut_X3_isPage
set_option maxRecDepth 20000 in
theorem ggX2_takeOut_X2_unlinkLast : GoodIn wsX2_takeOut wsX2_unlinkLast := goodIn_r _ [21, 22, 11, 23, 10, 15, 16, 17, 12, 13, 8, 14, 24, 25, 26, 27, 2, 28, 29, 30, 31, 32, 33, 34, 35, 36, 37, 38, 39] (by decide +kernel) (by decide +kernel)
set_option maxRecDepth 20000 in
theorem gX2_takeOut_X2_unlinkLast : GoodIn wsX2_takeOut (wsV RX2 141 RX2 yX2_unlinkLast wsX2_unlinkLast) := goodIn_app (goodIn_of _ (by decide +kernel)) ggX2_takeOut_X2_unlinkLast
theorem dX2_takeOut_0 : decode cX2_takeOut 0 = .ok (.aload_n 0, 1) := by decide +kernel
theorem dX2_takeOut_1 : decode cX2_takeOut 1 = .ok (.iload_n 1, 1) := by decide +kernel
theorem dX2_takeOut_2 : decode cX2_takeOut 2 = .ok (.invokevirtual 76, 3) := by decide +kernel
theorem dX2_takeOut_5 : decode cX2_takeOut 5 = .ok (.istore_n 3, 1) := by decide +kernel
theorem dX2_takeOut_6 : decode cX2_takeOut 6 = .ok (.iload_n 3, 1) := by decide +kernel
theorem dX2_takeOut_7 : decode cX2_takeOut 7 = .ok (.invokestatic 61, 3) := by decide +kernel
theorem dX2_takeOut_10 : decode cX2_takeOut 10 = .ok (.ifCond .eq 16, 3) := by decide +kernel
theorem dX2_takeOut_13 : decode cX2_takeOut 13 = .ok (.iload_n 2, 1) := by decide +kernel
theorem dX2_takeOut_14 : decode cX2_takeOut 14 = .ok (.ifCond .lt 12, 3) := by decide +kernel
theorem dX2_takeOut_17 : decode cX2_takeOut 17 = .ok (.iload_n 2, 1) := by decide +kernel
theorem dX2_takeOut_18 : decode cX2_takeOut 18 = .ok (.aload_n 0, 1) := by decide +kernel
theorem dX2_takeOut_19 : decode cX2_takeOut 19 = .ok (.getfield 9, 3) := by decide +kernel
theorem dX2_takeOut_22 : decode cX2_takeOut 22 = .ok (.arraylength, 1) := by decide +kernel
theorem dX2_takeOut_23 : decode cX2_takeOut 23 = .ok (.if_icmp .lt 4, 3) := by decide +kernel
theorem dX2_takeOut_26 : decode cX2_takeOut 26 = .ok (.return_, 1) := by decide +kernel
theorem dX2_takeOut_27 : decode cX2_takeOut 27 = .ok (.iload_n 3, 1) := by decide +kernel
theorem dX2_takeOut_28 : decode cX2_takeOut 28 = .ok (.iconst 4, 1) := by decide +kernel
theorem dX2_takeOut_29 : decode cX2_takeOut 29 = .ok (.imul, 1) := by decide +kernel
theorem dX2_takeOut_30 : decode cX2_takeOut 30 = .ok (.aload_n 0, 1) := by decide +kernel
theorem dX2_takeOut_31 : decode cX2_takeOut 31 = .ok (.getfield 18, 3) := by decide +kernel
theorem dX2_takeOut_34 : decode cX2_takeOut 34 = .ok (.iload_n 3, 1) := by decide +kernel
theorem dX2_takeOut_35 : decode cX2_takeOut 35 = .ok (.iaload, 1) := by decide +kernel
theorem dX2_takeOut_36 : decode cX2_takeOut 36 = .ok (.iadd, 1) := by decide +kernel
theorem dX2_takeOut_37 : decode cX2_takeOut 37 = .ok (.iconst 1, 1) := by decide +kernel
theorem dX2_takeOut_38 : decode cX2_takeOut 38 = .ok (.isub, 1) := by decide +kernel
theorem dX2_takeOut_39 : decode cX2_takeOut 39 = .ok (.istore 4, 2) := by decide +kernel
theorem dX2_takeOut_41 : decode cX2_takeOut 41 = .ok (.iload 4, 2) := by decide +kernel
theorem dX2_takeOut_43 : decode cX2_takeOut 43 = .ok (.ifCond .lt 13, 3) := by decide +kernel
theorem dX2_takeOut_46 : decode cX2_takeOut 46 = .ok (.iload 4, 2) := by decide +kernel
theorem dX2_takeOut_48 : decode cX2_takeOut 48 = .ok (.aload_n 0, 1) := by decide +kernel
theorem dX2_takeOut_49 : decode cX2_takeOut 49 = .ok (.getfield 9, 3) := by decide +kernel
theorem dX2_takeOut_52 : decode cX2_takeOut 52 = .ok (.arraylength, 1) := by decide +kernel
theorem dX2_takeOut_53 : decode cX2_takeOut 53 = .ok (.if_icmp .lt 4, 3) := by decide +kernel
theorem dX2_takeOut_56 : decode cX2_takeOut 56 = .ok (.return_, 1) := by decide +kernel
theorem dX2_takeOut_57 : decode cX2_takeOut 57 = .ok (.aload_n 0, 1) := by decide +kernel
theorem dX2_takeOut_58 : decode cX2_takeOut 58 = .ok (.getfield 9, 3) := by decide +kernel
theorem dX2_takeOut_61 : decode cX2_takeOut 61 = .ok (.iload_n 2, 1) := by decide +kernel
theorem dX2_takeOut_62 : decode cX2_takeOut 62 = .ok (.aload_n 0, 1) := by decide +kernel
theorem dX2_takeOut_63 : decode cX2_takeOut 63 = .ok (.getfield 9, 3) := by decide +kernel
theorem dX2_takeOut_66 : decode cX2_takeOut 66 = .ok (.iload 4, 2) := by decide +kernel
theorem dX2_takeOut_68 : decode cX2_takeOut 68 = .ok (.iaload, 1) := by decide +kernel
theorem dX2_takeOut_69 : decode cX2_takeOut 69 = .ok (.iastore, 1) := by decide +kernel
theorem dX2_takeOut_70 : decode cX2_takeOut 70 = .ok (.aload_n 0, 1) := by decide +kernel
theorem dX2_takeOut_71 : decode cX2_takeOut 71 = .ok (.getfield 15, 3) := by decide +kernel
theorem dX2_takeOut_74 : decode cX2_takeOut 74 = .ok (.iload_n 2, 1) := by decide +kernel
theorem dX2_takeOut_75 : decode cX2_takeOut 75 = .ok (.aload_n 0, 1) := by decide +kernel
theorem dX2_takeOut_76 : decode cX2_takeOut 76 = .ok (.getfield 15, 3) := by decide +kernel
theorem dX2_takeOut_79 : decode cX2_takeOut 79 = .ok (.iload 4, 2) := by decide +kernel
theorem dX2_takeOut_81 : decode cX2_takeOut 81 = .ok (.iaload, 1) := by decide +kernel
theorem dX2_takeOut_82 : decode cX2_takeOut 82 = .ok (.iastore, 1) := by decide +kernel
theorem dX2_takeOut_83 : decode cX2_takeOut 83 = .ok (.aload_n 0, 1) := by decide +kernel
theorem dX2_takeOut_84 : decode cX2_takeOut 84 = .ok (.getfield 18, 3) := by decide +kernel
theorem dX2_takeOut_87 : decode cX2_takeOut 87 = .ok (.iload_n 3, 1) := by decide +kernel
theorem dX2_takeOut_88 : decode cX2_takeOut 88 = .ok (.dup2, 1) := by decide +kernel
theorem dX2_takeOut_89 : decode cX2_takeOut 89 = .ok (.iaload, 1) := by decide +kernel
theorem dX2_takeOut_90 : decode cX2_takeOut 90 = .ok (.iconst 1, 1) := by decide +kernel
theorem dX2_takeOut_91 : decode cX2_takeOut 91 = .ok (.isub, 1) := by decide +kernel
theorem dX2_takeOut_92 : decode cX2_takeOut 92 = .ok (.iastore, 1) := by decide +kernel
theorem dX2_takeOut_93 : decode cX2_takeOut 93 = .ok (.aload_n 0, 1) := by decide +kernel
theorem dX2_takeOut_94 : decode cX2_takeOut 94 = .ok (.dup, 1) := by decide +kernel
theorem dX2_takeOut_95 : decode cX2_takeOut 95 = .ok (.getfield 57, 3) := by decide +kernel
theorem dX2_takeOut_98 : decode cX2_takeOut 98 = .ok (.iconst 1, 1) := by decide +kernel
theorem dX2_takeOut_99 : decode cX2_takeOut 99 = .ok (.isub, 1) := by decide +kernel
theorem dX2_takeOut_100 : decode cX2_takeOut 100 = .ok (.putfield 57, 3) := by decide +kernel
theorem dX2_takeOut_103 : decode cX2_takeOut 103 = .ok (.aload_n 0, 1) := by decide +kernel
theorem dX2_takeOut_104 : decode cX2_takeOut 104 = .ok (.getfield 18, 3) := by decide +kernel
theorem dX2_takeOut_107 : decode cX2_takeOut 107 = .ok (.iload_n 3, 1) := by decide +kernel
theorem dX2_takeOut_108 : decode cX2_takeOut 108 = .ok (.iaload, 1) := by decide +kernel
theorem dX2_takeOut_109 : decode cX2_takeOut 109 = .ok (.ifCond .ne 15, 3) := by decide +kernel
theorem dX2_takeOut_112 : decode cX2_takeOut 112 = .ok (.iload_n 3, 1) := by decide +kernel
theorem dX2_takeOut_113 : decode cX2_takeOut 113 = .ok (.bipush 64, 2) := by decide +kernel
theorem dX2_takeOut_115 : decode cX2_takeOut 115 = .ok (.if_icmp .lt 9, 3) := by decide +kernel
theorem dX2_takeOut_118 : decode cX2_takeOut 118 = .ok (.aload_n 0, 1) := by decide +kernel
theorem dX2_takeOut_119 : decode cX2_takeOut 119 = .ok (.iload_n 1, 1) := by decide +kernel
theorem dX2_takeOut_120 : decode cX2_takeOut 120 = .ok (.iload_n 3, 1) := by decide +kernel
theorem dX2_takeOut_121 : decode cX2_takeOut 121 = .ok (.invokevirtual 141, 3) := by decide +kernel
theorem dX2_takeOut_124 : decode cX2_takeOut 124 = .ok (.return_, 1) := by decide +kernel
set_option maxRecDepth 20000 in
theorem ggX2_unlinkLast_X3_isPage : GoodIn wsX2_unlinkLast wsX3_isPage := goodIn_r _ [7] (by decide +kernel) (by decide +kernel)
set_option maxRecDepth 20000 in
theorem gX2_unlinkLast_X3_isPage_n61 : GoodIn wsX2_unlinkLast (wsX3_isPage) := ggX2_unlinkLast_X3_isPage
set_option maxRecDepth 20000 in
theorem ggX2_unlinkLast_X2_isBucketPlace : GoodIn wsX2_unlinkLast wsX2_isBucketPlace := goodIn_r _ [11] (by decide +kernel) (by decide +kernel)
set_option maxRecDepth 20000 in
theorem gX2_unlinkLast_X2_isBucketPlace : GoodIn wsX2_unlinkLast (va_wsS RX2 69 yX2_isBucketPlace wsX2_isBucketPlace) := goodIn_app (goodIn_of _ (by decide +kernel)) ggX2_unlinkLast_X2_isBucketPlace
set_option maxRecDepth 20000 in
theorem ggX2_unlinkLast_X2_clearPage : GoodIn wsX2_unlinkLast wsX2_clearPage := goodIn_r _ [15, 16, 3, 2, 1, 17, 5, 6, 7, 18, 19, 20, 21, 22, 23, 24, 25, 26, 27, 28] (by decide +kernel) (by decide +kernel)
set_option maxRecDepth 20000 in
theorem gX2_unlinkLast_X2_clearPage : GoodIn wsX2_unlinkLast (wsV RX2 135 RX2 yX2_clearPage wsX2_clearPage) := goodIn_app (goodIn_of _ (by decide +kernel)) ggX2_unlinkLast_X2_clearPage
theorem dX2_unlinkLast_0 : decode cX2_unlinkLast 0 = .ok (.iload_n 2, 1) := by decide +kernel
theorem dX2_unlinkLast_1 : decode cX2_unlinkLast 1 = .ok (.invokestatic 61, 3) := by decide +kernel
theorem dX2_unlinkLast_4 : decode cX2_unlinkLast 4 = .ok (.ifCond .eq 12, 3) := by decide +kernel
theorem dX2_unlinkLast_7 : decode cX2_unlinkLast 7 = .ok (.aload_n 0, 1) := by decide +kernel
theorem dX2_unlinkLast_8 : decode cX2_unlinkLast 8 = .ok (.getfield 24, 3) := by decide +kernel
theorem dX2_unlinkLast_11 : decode cX2_unlinkLast 11 = .ok (.iload_n 2, 1) := by decide +kernel
theorem dX2_unlinkLast_12 : decode cX2_unlinkLast 12 = .ok (.iaload, 1) := by decide +kernel
theorem dX2_unlinkLast_13 : decode cX2_unlinkLast 13 = .ok (.goto 5, 3) := by decide +kernel
theorem dX2_unlinkLast_16 : decode cX2_unlinkLast 16 = .ok (.ldc 37, 2) := by decide +kernel
theorem dX2_unlinkLast_18 : decode cX2_unlinkLast 18 = .ok (.istore_n 3, 1) := by decide +kernel
theorem dX2_unlinkLast_19 : decode cX2_unlinkLast 19 = .ok (.iload_n 3, 1) := by decide +kernel
theorem dX2_unlinkLast_20 : decode cX2_unlinkLast 20 = .ok (.invokestatic 61, 3) := by decide +kernel
theorem dX2_unlinkLast_23 : decode cX2_unlinkLast 23 = .ok (.ifCond .eq 30, 3) := by decide +kernel
theorem dX2_unlinkLast_26 : decode cX2_unlinkLast 26 = .ok (.iload_n 1, 1) := by decide +kernel
theorem dX2_unlinkLast_27 : decode cX2_unlinkLast 27 = .ok (.invokestatic 69, 3) := by decide +kernel
theorem dX2_unlinkLast_30 : decode cX2_unlinkLast 30 = .ok (.ifCond .eq 23, 3) := by decide +kernel
theorem dX2_unlinkLast_33 : decode cX2_unlinkLast 33 = .ok (.aload_n 0, 1) := by decide +kernel
theorem dX2_unlinkLast_34 : decode cX2_unlinkLast 34 = .ok (.getfield 21, 3) := by decide +kernel
theorem dX2_unlinkLast_37 : decode cX2_unlinkLast 37 = .ok (.iload_n 3, 1) := by decide +kernel
theorem dX2_unlinkLast_38 : decode cX2_unlinkLast 38 = .ok (.ldc 37, 2) := by decide +kernel
theorem dX2_unlinkLast_40 : decode cX2_unlinkLast 40 = .ok (.iastore, 1) := by decide +kernel
theorem dX2_unlinkLast_41 : decode cX2_unlinkLast 41 = .ok (.aload_n 0, 1) := by decide +kernel
theorem dX2_unlinkLast_42 : decode cX2_unlinkLast 42 = .ok (.getfield 30, 3) := by decide +kernel
theorem dX2_unlinkLast_45 : decode cX2_unlinkLast 45 = .ok (.iload_n 1, 1) := by decide +kernel
theorem dX2_unlinkLast_46 : decode cX2_unlinkLast 46 = .ok (.iload_n 3, 1) := by decide +kernel
theorem dX2_unlinkLast_47 : decode cX2_unlinkLast 47 = .ok (.iastore, 1) := by decide +kernel
theorem dX2_unlinkLast_48 : decode cX2_unlinkLast 48 = .ok (.aload_n 0, 1) := by decide +kernel
theorem dX2_unlinkLast_49 : decode cX2_unlinkLast 49 = .ok (.iload_n 2, 1) := by decide +kernel
theorem dX2_unlinkLast_50 : decode cX2_unlinkLast 50 = .ok (.invokevirtual 135, 3) := by decide +kernel
theorem dX2_unlinkLast_53 : decode cX2_unlinkLast 53 = .ok (.return_, 1) := by decide +kernel
theorem dX2_leastFreePage_0 : decode cX2_leastFreePage 0 = .ok (.bipush 64, 2) := by decide +kernel
theorem dX2_leastFreePage_2 : decode cX2_leastFreePage 2 = .ok (.istore_n 1, 1) := by decide +kernel
theorem dX2_leastFreePage_3 : decode cX2_leastFreePage 3 = .ok (.iload_n 1, 1) := by decide +kernel
theorem dX2_leastFreePage_4 : decode cX2_leastFreePage 4 = .ok (.sipush 128, 3) := by decide +kernel
theorem dX2_leastFreePage_7 : decode cX2_leastFreePage 7 = .ok (.if_icmp .ge 22, 3) := by decide +kernel
theorem dX2_leastFreePage_10 : decode cX2_leastFreePage 10 = .ok (.aload_n 0, 1) := by decide +kernel
theorem dX2_leastFreePage_11 : decode cX2_leastFreePage 11 = .ok (.getfield 27, 3) := by decide +kernel
theorem dX2_leastFreePage_14 : decode cX2_leastFreePage 14 = .ok (.iload_n 1, 1) := by decide +kernel
theorem dX2_leastFreePage_15 : decode cX2_leastFreePage 15 = .ok (.iaload, 1) := by decide +kernel
theorem dX2_leastFreePage_16 : decode cX2_leastFreePage 16 = .ok (.ldc 37, 2) := by decide +kernel
theorem dX2_leastFreePage_18 : decode cX2_leastFreePage 18 = .ok (.if_icmp .ne 5, 3) := by decide +kernel
theorem dX2_leastFreePage_21 : decode cX2_leastFreePage 21 = .ok (.iload_n 1, 1) := by decide +kernel
theorem dX2_leastFreePage_22 : decode cX2_leastFreePage 22 = .ok (.ireturn, 1) := by decide +kernel
theorem dX2_leastFreePage_23 : decode cX2_leastFreePage 23 = .ok (.iinc 1 1, 3) := by decide +kernel
theorem dX2_leastFreePage_26 : decode cX2_leastFreePage 26 = .ok (.goto (-23), 3) := by decide +kernel
theorem dX2_leastFreePage_29 : decode cX2_leastFreePage 29 = .ok (.ldc 37, 2) := by decide +kernel
theorem dX2_leastFreePage_31 : decode cX2_leastFreePage 31 = .ok (.ireturn, 1) := by decide +kernel
theorem dX2_isBucketPlace_0 : decode cX2_isBucketPlace 0 = .ok (.iload_n 0, 1) := by decide +kernel
theorem dX2_isBucketPlace_1 : decode cX2_isBucketPlace 1 = .ok (.ifCond .lt 13, 3) := by decide +kernel
theorem dX2_isBucketPlace_4 : decode cX2_isBucketPlace 4 = .ok (.iload_n 0, 1) := by decide +kernel
theorem dX2_isBucketPlace_5 : decode cX2_isBucketPlace 5 = .ok (.bipush 64, 2) := by decide +kernel
theorem dX2_isBucketPlace_7 : decode cX2_isBucketPlace 7 = .ok (.if_icmp .ge 7, 3) := by decide +kernel
theorem dX2_isBucketPlace_10 : decode cX2_isBucketPlace 10 = .ok (.iconst 1, 1) := by decide +kernel
theorem dX2_isBucketPlace_11 : decode cX2_isBucketPlace 11 = .ok (.goto 4, 3) := by decide +kernel
theorem dX2_isBucketPlace_14 : decode cX2_isBucketPlace 14 = .ok (.iconst 0, 1) := by decide +kernel
theorem dX2_isBucketPlace_15 : decode cX2_isBucketPlace 15 = .ok (.ireturn, 1) := by decide +kernel
set_option maxRecDepth 20000 in
theorem ggX3_init_X0_init : GoodIn wsX3_init wsX0_init := goodIn_r _ [17, 18, 2, 3, 19, 20, 21, 46, 47, 48] (by decide +kernel) (by decide +kernel)
set_option maxRecDepth 20000 in
theorem gX3_init_X0_init_n11 : GoodIn wsX3_init (wsX0_init) := ggX3_init_X0_init
set_option maxRecDepth 20000 in
theorem ggX3_init_X2_init : GoodIn wsX3_init wsX2_init := goodIn_r _ [24, 25, 2, 3, 19, 26, 27, 28, 29, 30, 31, 32, 33, 34, 35, 36, 37, 38, 49, 50, 51, 52, 53, 54, 55, 56, 57, 58, 59] (by decide +kernel) (by decide +kernel)
set_option maxRecDepth 20000 in
theorem gX3_init_X2_init : GoodIn wsX3_init (wsX2_init) := ggX3_init_X2_init
set_option maxRecDepth 20000 in
theorem ggX3_init_X1_init : GoodIn wsX3_init wsX1_init := goodIn_r _ [40, 41, 2, 3, 19, 42, 43, 44, 45, 65, 66, 67, 68, 69, 70, 71, 72] (by decide +kernel) (by decide +kernel)
set_option maxRecDepth 20000 in
theorem gX3_init_X1_init_n26 : GoodIn wsX3_init (wsX1_init) := ggX3_init_X1_init
theorem dX3_init_0 : decode cX3_init 0 = .ok (.aload_n 0, 1) := by decide +kernel
theorem dX3_init_1 : decode cX3_init 1 = .ok (.invokespecial 3, 3) := by decide +kernel
theorem dX3_init_4 : decode cX3_init 4 = .ok (.new 9, 3) := by decide +kernel
theorem dX3_init_7 : decode cX3_init 7 = .ok (.dup, 1) := by decide +kernel
theorem dX3_init_8 : decode cX3_init 8 = .ok (.invokespecial 11, 3) := by decide +kernel
theorem dX3_init_11 : decode cX3_init 11 = .ok (.astore_n 1, 1) := by decide +kernel
theorem dX3_init_12 : decode cX3_init 12 = .ok (.aload_n 0, 1) := by decide +kernel
theorem dX3_init_13 : decode cX3_init 13 = .ok (.new 12, 3) := by decide +kernel
theorem dX3_init_16 : decode cX3_init 16 = .ok (.dup, 1) := by decide +kernel
theorem dX3_init_17 : decode cX3_init 17 = .ok (.aload_n 1, 1) := by decide +kernel
theorem dX3_init_18 : decode cX3_init 18 = .ok (.invokespecial 14, 3) := by decide +kernel
theorem dX3_init_21 : decode cX3_init 21 = .ok (.putfield 17, 3) := by decide +kernel
theorem dX3_init_24 : decode cX3_init 24 = .ok (.aload_n 0, 1) := by decide +kernel
theorem dX3_init_25 : decode cX3_init 25 = .ok (.new 12, 3) := by decide +kernel
theorem dX3_init_28 : decode cX3_init 28 = .ok (.dup, 1) := by decide +kernel
theorem dX3_init_29 : decode cX3_init 29 = .ok (.aload_n 1, 1) := by decide +kernel
theorem dX3_init_30 : decode cX3_init 30 = .ok (.invokespecial 14, 3) := by decide +kernel
theorem dX3_init_33 : decode cX3_init 33 = .ok (.putfield 21, 3) := by decide +kernel
theorem dX3_init_36 : decode cX3_init 36 = .ok (.aload_n 0, 1) := by decide +kernel
theorem dX3_init_37 : decode cX3_init 37 = .ok (.new 24, 3) := by decide +kernel
theorem dX3_init_40 : decode cX3_init 40 = .ok (.dup, 1) := by decide +kernel
theorem dX3_init_41 : decode cX3_init 41 = .ok (.invokespecial 26, 3) := by decide +kernel
theorem dX3_init_44 : decode cX3_init 44 = .ok (.putfield 27, 3) := by decide +kernel
theorem dX3_init_47 : decode cX3_init 47 = .ok (.return_, 1) := by decide +kernel
set_option maxRecDepth 20000 in
theorem ggX3_put_X2_find : GoodIn wsX3_put wsX2_find := goodIn_r _ [12, 13, 14, 15, 16, 17, 18, 19, 11, 20, 21, 22, 23, 24, 25, 26, 154, 155, 156, 157, 158, 159, 160, 161, 162, 163, 164] (by decide +kernel) (by decide +kernel)
set_option maxRecDepth 20000 in
theorem gX3_put_X2_find : GoodIn wsX3_put (wsV RX3 33 RX2 yX2_find wsX2_find) := goodIn_app (goodIn_of _ (by decide +kernel)) ggX3_put_X2_find
set_option maxRecDepth 20000 in
theorem ggX3_put_X2_hasRoomFor : GoodIn wsX3_put wsX2_hasRoomFor := goodIn_r _ [30, 16, 17, 18, 19, 11, 20, 21, 22, 23, 31, 32, 33, 34, 35, 36, 37, 38, 39, 40, 41, 42, 13, 24, 25, 26, 43, 44, 45, 46, 47, 154, 155, 156, 157, 158, 159, 160, 161, 162, 163, 164] (by decide +kernel) (by decide +kernel)
set_option maxRecDepth 20000 in
theorem gX3_put_X2_hasRoomFor : GoodIn wsX3_put (wsV RX3 38 RX2 yX2_hasRoomFor wsX2_hasRoomFor) := goodIn_app (goodIn_of _ (by decide +kernel)) ggX3_put_X2_hasRoomFor
set_option maxRecDepth 20000 in
theorem ggX3_put_X1_isFull : GoodIn wsX3_put wsX1_isFull := goodIn_r _ [52, 53, 165, 166, 167, 168, 169, 170, 171, 172] (by decide +kernel) (by decide +kernel)
set_option maxRecDepth 20000 in
theorem gX3_put_X1_isFull : GoodIn wsX3_put (wsV RX3 43 RX1 yX1_isFull wsX1_isFull) := goodIn_app (goodIn_of _ (by decide +kernel)) ggX3_put_X1_isFull
set_option maxRecDepth 20000 in
theorem ggX3_put_X3_write : GoodIn wsX3_put wsX3_write := goodIn_r _ [57, 3, 6, 58, 59, 60, 61, 11, 62, 16, 63, 64, 9, 10, 12, 13, 14, 15, 17, 18, 19, 20, 21, 22, 23, 24, 25, 26, 65, 66, 67, 68, 69, 31, 32, 33, 34, 35, 36, 37, 38, 39, 40, 41, 42, 70, 71, 72, 73, 74, 47, 43, 44, 45, 46, 75, 76, 77, 78, 79, 80, 81, 82, 83, 84, 85, 86, 87, 88, 89, 90, 91, 92, 93, 94, 95, 96, 97, 98, 99, 100, 101, 102, 103, 104, 105, 106, 107, 108, 109, 110, 111, 112, 113, 114, 115, 116, 117, 118, 119, 120, 121, 122, 123, 124, 125, 126, 127, 128, 129, 130, 131, 132, 133, 134, 135, 136, 137, 51, 138, 53, 139, 140, 141, 142, 143, 144, 145, 146, 147, 148, 149, 150, 151, 152, 153, 154, 155, 156, 157, 158, 159, 160, 161, 162, 163, 164, 173, 174, 175, 165, 166, 167, 168, 169, 170, 171, 172] (by decide +kernel) (by decide +kernel)
set_option maxRecDepth 20000 in
theorem gX3_put_X3_write : GoodIn wsX3_put (wsV RX3 48 RX3 yX3_write wsX3_write) := goodIn_app (goodIn_of _ (by decide +kernel)) ggX3_put_X3_write
theorem dX3_put_0 : decode cX3_put 0 = .ok (.iload_n 2, 1) := by decide +kernel
theorem dX3_put_1 : decode cX3_put 1 = .ok (.ifCond .lt 9, 3) := by decide +kernel
theorem dX3_put_4 : decode cX3_put 4 = .ok (.iload_n 2, 1) := by decide +kernel
theorem dX3_put_5 : decode cX3_put 5 = .ok (.ldc 31, 2) := by decide +kernel
theorem dX3_put_7 : decode cX3_put 7 = .ok (.if_icmp .le 6, 3) := by decide +kernel
theorem dX3_put_10 : decode cX3_put 10 = .ok (.ldc 32, 2) := by decide +kernel
theorem dX3_put_12 : decode cX3_put 12 = .ok (.ireturn, 1) := by decide +kernel
theorem dX3_put_13 : decode cX3_put 13 = .ok (.aload_n 0, 1) := by decide +kernel
theorem dX3_put_14 : decode cX3_put 14 = .ok (.getfield 17, 3) := by decide +kernel
theorem dX3_put_17 : decode cX3_put 17 = .ok (.iload_n 1, 1) := by decide +kernel
theorem dX3_put_18 : decode cX3_put 18 = .ok (.invokevirtual 33, 3) := by decide +kernel
theorem dX3_put_21 : decode cX3_put 21 = .ok (.ldc 37, 2) := by decide +kernel
theorem dX3_put_23 : decode cX3_put 23 = .ok (.if_icmp .eq 7, 3) := by decide +kernel
theorem dX3_put_26 : decode cX3_put 26 = .ok (.iconst 1, 1) := by decide +kernel
theorem dX3_put_27 : decode cX3_put 27 = .ok (.goto 4, 3) := by decide +kernel
theorem dX3_put_30 : decode cX3_put 30 = .ok (.iconst 0, 1) := by decide +kernel
theorem dX3_put_31 : decode cX3_put 31 = .ok (.istore_n 3, 1) := by decide +kernel
theorem dX3_put_32 : decode cX3_put 32 = .ok (.iload_n 3, 1) := by decide +kernel
theorem dX3_put_33 : decode cX3_put 33 = .ok (.ifCond .ne 17, 3) := by decide +kernel
theorem dX3_put_36 : decode cX3_put 36 = .ok (.aload_n 0, 1) := by decide +kernel
theorem dX3_put_37 : decode cX3_put 37 = .ok (.getfield 17, 3) := by decide +kernel
theorem dX3_put_40 : decode cX3_put 40 = .ok (.iload_n 1, 1) := by decide +kernel
theorem dX3_put_41 : decode cX3_put 41 = .ok (.invokevirtual 38, 3) := by decide +kernel
theorem dX3_put_44 : decode cX3_put 44 = .ok (.ifCond .ne 6, 3) := by decide +kernel
theorem dX3_put_47 : decode cX3_put 47 = .ok (.ldc 42, 2) := by decide +kernel
theorem dX3_put_49 : decode cX3_put 49 = .ok (.ireturn, 1) := by decide +kernel
theorem dX3_put_50 : decode cX3_put 50 = .ok (.aload_n 0, 1) := by decide +kernel
theorem dX3_put_51 : decode cX3_put 51 = .ok (.getfield 27, 3) := by decide +kernel
theorem dX3_put_54 : decode cX3_put 54 = .ok (.invokevirtual 43, 3) := by decide +kernel
theorem dX3_put_57 : decode cX3_put 57 = .ok (.ifCond .eq 6, 3) := by decide +kernel
theorem dX3_put_60 : decode cX3_put 60 = .ok (.ldc 47, 2) := by decide +kernel
theorem dX3_put_62 : decode cX3_put 62 = .ok (.ireturn, 1) := by decide +kernel
theorem dX3_put_63 : decode cX3_put 63 = .ok (.aload_n 0, 1) := by decide +kernel
theorem dX3_put_64 : decode cX3_put 64 = .ok (.iconst 0, 1) := by decide +kernel
theorem dX3_put_65 : decode cX3_put 65 = .ok (.iload_n 1, 1) := by decide +kernel
theorem dX3_put_66 : decode cX3_put 66 = .ok (.iload_n 2, 1) := by decide +kernel
theorem dX3_put_67 : decode cX3_put 67 = .ok (.invokevirtual 48, 3) := by decide +kernel
theorem dX3_put_70 : decode cX3_put 70 = .ok (.iload_n 3, 1) := by decide +kernel
theorem dX3_put_71 : decode cX3_put 71 = .ok (.ifCond .eq 7, 3) := by decide +kernel
theorem dX3_put_74 : decode cX3_put 74 = .ok (.iconst 1, 1) := by decide +kernel
theorem dX3_put_75 : decode cX3_put 75 = .ok (.goto 4, 3) := by decide +kernel
theorem dX3_put_78 : decode cX3_put 78 = .ok (.iconst 0, 1) := by decide +kernel
theorem dX3_put_79 : decode cX3_put 79 = .ok (.ireturn, 1) := by decide +kernel
set_option maxRecDepth 20000 in
theorem ggX3_remove_X2_find : GoodIn wsX3_remove wsX2_find := goodIn_r _ [9, 10, 11, 12, 13, 14, 15, 16, 8, 17, 18, 19, 20, 21, 22, 23, 151, 152, 153, 154, 155, 156, 157, 158, 159, 160, 161] (by decide +kernel) (by decide +kernel)
set_option maxRecDepth 20000 in
theorem gX3_remove_X2_find : GoodIn wsX3_remove (wsV RX3 33 RX2 yX2_find wsX2_find) := goodIn_app (goodIn_of _ (by decide +kernel)) ggX3_remove_X2_find
set_option maxRecDepth 20000 in
theorem ggX3_remove_X1_isFull : GoodIn wsX3_remove wsX1_isFull := goodIn_r _ [28, 29, 162, 163, 164, 165, 166, 167, 168, 169] (by decide +kernel) (by decide +kernel)
set_option maxRecDepth 20000 in
theorem gX3_remove_X1_isFull : GoodIn wsX3_remove (wsV RX3 43 RX1 yX1_isFull wsX1_isFull) := goodIn_app (goodIn_of _ (by decide +kernel)) ggX3_remove_X1_isFull
set_option maxRecDepth 20000 in
theorem ggX3_remove_X2_valueIn : GoodIn wsX3_remove wsX2_valueIn := goodIn_r _ [33, 34, 13, 151, 152, 153, 154, 155, 156, 157, 158, 159, 160, 161] (by decide +kernel) (by decide +kernel)
set_option maxRecDepth 20000 in
theorem gX3_remove_X2_valueIn : GoodIn wsX3_remove (wsV RX3 52 RX2 yX2_valueIn wsX2_valueIn) := goodIn_app (goodIn_of _ (by decide +kernel)) ggX3_remove_X2_valueIn
set_option maxRecDepth 20000 in
theorem ggX3_remove_X3_write : GoodIn wsX3_remove wsX3_write := goodIn_r _ [38, 1, 3, 39, 40, 41, 42, 8, 43, 13, 44, 45, 6, 7, 9, 10, 11, 12, 14, 15, 16, 17, 18, 19, 20, 21, 22, 23, 46, 47, 48, 49, 34, 50, 51, 52, 53, 54, 55, 56, 57, 58, 59, 60, 61, 62, 63, 64, 65, 66, 67, 68, 69, 70, 71, 72, 73, 74, 75, 76, 77, 78, 79, 80, 81, 82, 83, 84, 85, 86, 87, 88, 89, 90, 91, 92, 93, 94, 95, 96, 97, 98, 99, 100, 101, 102, 103, 104, 105, 106, 107, 108, 109, 110, 111, 112, 113, 114, 115, 116, 117, 118, 119, 120, 121, 122, 123, 124, 125, 126, 127, 128, 129, 130, 131, 132, 133, 134, 27, 135, 29, 136, 137, 138, 139, 140, 141, 142, 143, 144, 145, 146, 147, 148, 149, 150, 151, 152, 153, 154, 155, 156, 157, 158, 159, 160, 161, 170, 171, 172, 162, 163, 164, 165, 166, 167, 168, 169] (by decide +kernel) (by decide +kernel)
set_option maxRecDepth 20000 in
theorem gX3_remove_X3_write : GoodIn wsX3_remove (wsV RX3 48 RX3 yX3_write wsX3_write) := goodIn_app (goodIn_of _ (by decide +kernel)) ggX3_remove_X3_write
theorem dX3_remove_0 : decode cX3_remove 0 = .ok (.aload_n 0, 1) := by decide +kernel
theorem dX3_remove_1 : decode cX3_remove 1 = .ok (.getfield 17, 3) := by decide +kernel
theorem dX3_remove_4 : decode cX3_remove 4 = .ok (.iload_n 1, 1) := by decide +kernel
theorem dX3_remove_5 : decode cX3_remove 5 = .ok (.invokevirtual 33, 3) := by decide +kernel
theorem dX3_remove_8 : decode cX3_remove 8 = .ok (.istore_n 2, 1) := by decide +kernel
theorem dX3_remove_9 : decode cX3_remove 9 = .ok (.iload_n 2, 1) := by decide +kernel
theorem dX3_remove_10 : decode cX3_remove 10 = .ok (.ldc 37, 2) := by decide +kernel
theorem dX3_remove_12 : decode cX3_remove 12 = .ok (.if_icmp .ne 6, 3) := by decide +kernel
theorem dX3_remove_15 : decode cX3_remove 15 = .ok (.ldc 37, 2) := by decide +kernel
theorem dX3_remove_17 : decode cX3_remove 17 = .ok (.ireturn, 1) := by decide +kernel
theorem dX3_remove_18 : decode cX3_remove 18 = .ok (.aload_n 0, 1) := by decide +kernel
theorem dX3_remove_19 : decode cX3_remove 19 = .ok (.getfield 27, 3) := by decide +kernel
theorem dX3_remove_22 : decode cX3_remove 22 = .ok (.invokevirtual 43, 3) := by decide +kernel
theorem dX3_remove_25 : decode cX3_remove 25 = .ok (.ifCond .eq 6, 3) := by decide +kernel
theorem dX3_remove_28 : decode cX3_remove 28 = .ok (.ldc 47, 2) := by decide +kernel
theorem dX3_remove_30 : decode cX3_remove 30 = .ok (.ireturn, 1) := by decide +kernel
theorem dX3_remove_31 : decode cX3_remove 31 = .ok (.aload_n 0, 1) := by decide +kernel
theorem dX3_remove_32 : decode cX3_remove 32 = .ok (.getfield 17, 3) := by decide +kernel
theorem dX3_remove_35 : decode cX3_remove 35 = .ok (.iload_n 2, 1) := by decide +kernel
theorem dX3_remove_36 : decode cX3_remove 36 = .ok (.invokevirtual 52, 3) := by decide +kernel
theorem dX3_remove_39 : decode cX3_remove 39 = .ok (.istore_n 3, 1) := by decide +kernel
theorem dX3_remove_40 : decode cX3_remove 40 = .ok (.aload_n 0, 1) := by decide +kernel
theorem dX3_remove_41 : decode cX3_remove 41 = .ok (.iconst 1, 1) := by decide +kernel
theorem dX3_remove_42 : decode cX3_remove 42 = .ok (.iload_n 1, 1) := by decide +kernel
theorem dX3_remove_43 : decode cX3_remove 43 = .ok (.iload_n 3, 1) := by decide +kernel
theorem dX3_remove_44 : decode cX3_remove 44 = .ok (.invokevirtual 48, 3) := by decide +kernel
theorem dX3_remove_47 : decode cX3_remove 47 = .ok (.iload_n 3, 1) := by decide +kernel
theorem dX3_remove_48 : decode cX3_remove 48 = .ok (.ireturn, 1) := by decide +kernel
set_option maxRecDepth 20000 in
theorem ggX3_get_X2_find : GoodIn wsX3_get wsX2_find := goodIn_r _ [8, 9, 10, 11, 12, 13, 14, 15, 7, 16, 17, 18, 19, 20, 21, 22, 37, 38, 39, 40, 41, 42, 43, 44, 45, 46, 47] (by decide +kernel) (by decide +kernel)
set_option maxRecDepth 20000 in
theorem gX3_get_X2_find : GoodIn wsX3_get (wsV RX3 33 RX2 yX2_find wsX2_find) := goodIn_app (goodIn_of _ (by decide +kernel)) ggX3_get_X2_find
set_option maxRecDepth 20000 in
theorem ggX3_get_X2_pagesLookedAt : GoodIn wsX3_get wsX2_pagesLookedAt := goodIn_r _ [26, 12, 11, 13, 14, 15, 7, 16, 17, 18, 19, 20, 21, 22, 37, 38, 39, 40, 41, 42, 43, 44, 45, 46, 47] (by decide +kernel) (by decide +kernel)
set_option maxRecDepth 20000 in
theorem gX3_get_X2_pagesLookedAt : GoodIn wsX3_get (wsV RX3 59 RX2 yX2_pagesLookedAt wsX2_pagesLookedAt) := goodIn_app (goodIn_of _ (by decide +kernel)) ggX3_get_X2_pagesLookedAt
set_option maxRecDepth 20000 in
theorem ggX3_get_X2_valueIn : GoodIn wsX3_get wsX2_valueIn := goodIn_r _ [30, 31, 12, 37, 38, 39, 40, 41, 42, 43, 44, 45, 46, 47] (by decide +kernel) (by decide +kernel)
set_option maxRecDepth 20000 in
theorem gX3_get_X2_valueIn : GoodIn wsX3_get (wsV RX3 52 RX2 yX2_valueIn wsX2_valueIn) := goodIn_app (goodIn_of _ (by decide +kernel)) ggX3_get_X2_valueIn
theorem dX3_get_0 : decode cX3_get 0 = .ok (.aload_n 0, 1) := by decide +kernel
theorem dX3_get_1 : decode cX3_get 1 = .ok (.getfield 17, 3) := by decide +kernel
theorem dX3_get_4 : decode cX3_get 4 = .ok (.iload_n 1, 1) := by decide +kernel
theorem dX3_get_5 : decode cX3_get 5 = .ok (.invokevirtual 33, 3) := by decide +kernel
theorem dX3_get_8 : decode cX3_get 8 = .ok (.istore_n 2, 1) := by decide +kernel
theorem dX3_get_9 : decode cX3_get 9 = .ok (.aload_n 0, 1) := by decide +kernel
theorem dX3_get_10 : decode cX3_get 10 = .ok (.dup, 1) := by decide +kernel
theorem dX3_get_11 : decode cX3_get 11 = .ok (.getfield 55, 3) := by decide +kernel
theorem dX3_get_14 : decode cX3_get 14 = .ok (.aload_n 0, 1) := by decide +kernel
theorem dX3_get_15 : decode cX3_get 15 = .ok (.getfield 17, 3) := by decide +kernel
theorem dX3_get_18 : decode cX3_get 18 = .ok (.iload_n 1, 1) := by decide +kernel
theorem dX3_get_19 : decode cX3_get 19 = .ok (.iload_n 2, 1) := by decide +kernel
theorem dX3_get_20 : decode cX3_get 20 = .ok (.invokevirtual 59, 3) := by decide +kernel
theorem dX3_get_23 : decode cX3_get 23 = .ok (.iadd, 1) := by decide +kernel
theorem dX3_get_24 : decode cX3_get 24 = .ok (.putfield 55, 3) := by decide +kernel
theorem dX3_get_27 : decode cX3_get 27 = .ok (.iload_n 2, 1) := by decide +kernel
theorem dX3_get_28 : decode cX3_get 28 = .ok (.ldc 37, 2) := by decide +kernel
theorem dX3_get_30 : decode cX3_get 30 = .ok (.if_icmp .ne 8, 3) := by decide +kernel
theorem dX3_get_33 : decode cX3_get 33 = .ok (.ldc 37, 2) := by decide +kernel
theorem dX3_get_35 : decode cX3_get 35 = .ok (.goto 11, 3) := by decide +kernel
theorem dX3_get_38 : decode cX3_get 38 = .ok (.aload_n 0, 1) := by decide +kernel
theorem dX3_get_39 : decode cX3_get 39 = .ok (.getfield 17, 3) := by decide +kernel
theorem dX3_get_42 : decode cX3_get 42 = .ok (.iload_n 2, 1) := by decide +kernel
theorem dX3_get_43 : decode cX3_get 43 = .ok (.invokevirtual 52, 3) := by decide +kernel
theorem dX3_get_46 : decode cX3_get 46 = .ok (.ireturn, 1) := by decide +kernel
set_option maxRecDepth 20000 in
theorem ggX3_begin_X1_isOpen : GoodIn wsX3_begin wsX1_isOpen := goodIn_r _ [7, 8, 20, 21, 22, 23, 24, 25, 26, 27] (by decide +kernel) (by decide +kernel)
set_option maxRecDepth 20000 in
theorem gX3_begin_X1_isOpen : GoodIn wsX3_begin (wsV RX3 63 RX1 yX1_isOpen wsX1_isOpen) := goodIn_app (goodIn_of _ (by decide +kernel)) ggX3_begin_X1_isOpen
set_option maxRecDepth 20000 in
theorem ggX3_begin_X1_openGroup : GoodIn wsX3_begin wsX1_openGroup := goodIn_r _ [12, 8, 13, 14, 20, 21, 22, 23, 24, 25, 26, 27] (by decide +kernel) (by decide +kernel)
set_option maxRecDepth 20000 in
theorem gX3_begin_X1_openGroup : GoodIn wsX3_begin (wsV RX3 67 RX1 yX1_openGroup wsX1_openGroup) := goodIn_app (goodIn_of _ (by decide +kernel)) ggX3_begin_X1_openGroup
theorem dX3_begin_0 : decode cX3_begin 0 = .ok (.aload_n 0, 1) := by decide +kernel
theorem dX3_begin_1 : decode cX3_begin 1 = .ok (.getfield 27, 3) := by decide +kernel
theorem dX3_begin_4 : decode cX3_begin 4 = .ok (.invokevirtual 63, 3) := by decide +kernel
theorem dX3_begin_7 : decode cX3_begin 7 = .ok (.ifCond .eq 6, 3) := by decide +kernel
theorem dX3_begin_10 : decode cX3_begin 10 = .ok (.ldc 66, 2) := by decide +kernel
theorem dX3_begin_12 : decode cX3_begin 12 = .ok (.ireturn, 1) := by decide +kernel
theorem dX3_begin_13 : decode cX3_begin 13 = .ok (.aload_n 0, 1) := by decide +kernel
theorem dX3_begin_14 : decode cX3_begin 14 = .ok (.getfield 27, 3) := by decide +kernel
theorem dX3_begin_17 : decode cX3_begin 17 = .ok (.invokevirtual 67, 3) := by decide +kernel
theorem dX3_begin_20 : decode cX3_begin 20 = .ok (.iconst 0, 1) := by decide +kernel
theorem dX3_begin_21 : decode cX3_begin 21 = .ok (.ireturn, 1) := by decide +kernel
set_option maxRecDepth 20000 in
theorem ggX3_end_X1_isOpen : GoodIn wsX3_end wsX1_isOpen := goodIn_r _ [7, 8, 31, 32, 33, 34, 35, 36, 37, 38] (by decide +kernel) (by decide +kernel)
set_option maxRecDepth 20000 in
theorem gX3_end_X1_isOpen : GoodIn wsX3_end (wsV RX3 63 RX1 yX1_isOpen wsX1_isOpen) := goodIn_app (goodIn_of _ (by decide +kernel)) ggX3_end_X1_isOpen
set_option maxRecDepth 20000 in
theorem ggX3_end_X1_openWrites : GoodIn wsX3_end wsX1_openWrites := goodIn_r _ [12, 8, 13, 14, 31, 32, 33, 34, 35, 36, 37, 38] (by decide +kernel) (by decide +kernel)
set_option maxRecDepth 20000 in
theorem gX3_end_X1_openWrites : GoodIn wsX3_end (wsV RX3 70 RX1 yX1_openWrites wsX1_openWrites) := goodIn_app (goodIn_of _ (by decide +kernel)) ggX3_end_X1_openWrites
set_option maxRecDepth 20000 in
theorem ggX3_end_X1_closeGroup : GoodIn wsX3_end wsX1_closeGroup := goodIn_r _ [18, 8, 19, 10, 11, 6, 12, 13, 14, 20, 21, 22, 23, 24, 25, 31, 32, 33, 34, 35, 36, 37, 38] (by decide +kernel) (by decide +kernel)
set_option maxRecDepth 20000 in
theorem gX3_end_X1_closeGroup : GoodIn wsX3_end (wsV RX3 74 RX1 yX1_closeGroup wsX1_closeGroup) := goodIn_app (goodIn_of _ (by decide +kernel)) ggX3_end_X1_closeGroup
theorem dX3_end_0 : decode cX3_end 0 = .ok (.aload_n 0, 1) := by decide +kernel
theorem dX3_end_1 : decode cX3_end 1 = .ok (.getfield 27, 3) := by decide +kernel
theorem dX3_end_4 : decode cX3_end 4 = .ok (.invokevirtual 63, 3) := by decide +kernel
theorem dX3_end_7 : decode cX3_end 7 = .ok (.ifCond .ne 6, 3) := by decide +kernel
theorem dX3_end_10 : decode cX3_end 10 = .ok (.ldc 66, 2) := by decide +kernel
theorem dX3_end_12 : decode cX3_end 12 = .ok (.ireturn, 1) := by decide +kernel
theorem dX3_end_13 : decode cX3_end 13 = .ok (.aload_n 0, 1) := by decide +kernel
theorem dX3_end_14 : decode cX3_end 14 = .ok (.getfield 27, 3) := by decide +kernel
theorem dX3_end_17 : decode cX3_end 17 = .ok (.invokevirtual 70, 3) := by decide +kernel
theorem dX3_end_20 : decode cX3_end 20 = .ok (.istore_n 1, 1) := by decide +kernel
theorem dX3_end_21 : decode cX3_end 21 = .ok (.aload_n 0, 1) := by decide +kernel
theorem dX3_end_22 : decode cX3_end 22 = .ok (.getfield 27, 3) := by decide +kernel
theorem dX3_end_25 : decode cX3_end 25 = .ok (.invokevirtual 74, 3) := by decide +kernel
theorem dX3_end_28 : decode cX3_end 28 = .ok (.iload_n 1, 1) := by decide +kernel
theorem dX3_end_29 : decode cX3_end 29 = .ok (.ireturn, 1) := by decide +kernel
set_option maxRecDepth 20000 in
theorem ggX3_undo_X1_isOpen : GoodIn wsX3_undo wsX1_isOpen := goodIn_r _ [7, 8, 174, 175, 176, 177, 178, 179, 180, 181] (by decide +kernel) (by decide +kernel)
set_option maxRecDepth 20000 in
theorem gX3_undo_X1_isOpen : GoodIn wsX3_undo (wsV RX3 63 RX1 yX1_isOpen wsX1_isOpen) := goodIn_app (goodIn_of _ (by decide +kernel)) ggX3_undo_X1_isOpen
set_option maxRecDepth 20000 in
theorem ggX3_undo_X1_openWrites : GoodIn wsX3_undo wsX1_openWrites := goodIn_r _ [12, 8, 13, 14, 174, 175, 176, 177, 178, 179, 180, 181] (by decide +kernel) (by decide +kernel)
set_option maxRecDepth 20000 in
theorem gX3_undo_X1_openWrites : GoodIn wsX3_undo (wsV RX3 70 RX1 yX1_openWrites wsX1_openWrites) := goodIn_app (goodIn_of _ (by decide +kernel)) ggX3_undo_X1_openWrites
set_option maxRecDepth 20000 in
theorem ggX3_undo_X1_dropOpenGroup : GoodIn wsX3_undo wsX1_dropOpenGroup := goodIn_r _ [18, 8, 14, 13, 174, 175, 176, 177, 178, 179, 180, 181] (by decide +kernel) (by decide +kernel)
set_option maxRecDepth 20000 in
theorem gX3_undo_X1_dropOpenGroup : GoodIn wsX3_undo (wsV RX3 77 RX1 yX1_dropOpenGroup wsX1_dropOpenGroup) := goodIn_app (goodIn_of _ (by decide +kernel)) ggX3_undo_X1_dropOpenGroup
set_option maxRecDepth 20000 in
theorem ggX3_undo_X1_writeCount : GoodIn wsX3_undo wsX1_writeCount := goodIn_r _ [22, 13, 174, 175, 176, 177, 178, 179, 180, 181] (by decide +kernel) (by decide +kernel)
set_option maxRecDepth 20000 in
theorem gX3_undo_X1_writeCount : GoodIn wsX3_undo (wsV RX3 80 RX1 yX1_writeCount wsX1_writeCount) := goodIn_app (goodIn_of _ (by decide +kernel)) ggX3_undo_X1_writeCount
set_option maxRecDepth 20000 in
theorem ggX3_undo_X3_takeBack : GoodIn wsX3_undo wsX3_takeBack := goodIn_r _ [27, 28, 29, 30, 1, 31, 32, 33, 34, 35, 36, 37, 38, 39, 40, 41, 42, 43, 44, 45, 46, 47, 48, 49, 50, 51, 52, 6, 53, 54, 55, 56, 57, 58, 59, 13, 60, 61, 62, 63, 64, 65, 66, 67, 68, 69, 70, 71, 72, 73, 74, 75, 76, 77, 78, 79, 80, 81, 82, 83, 84, 26, 85, 86, 87, 88, 89, 90, 91, 92, 93, 94, 95, 96, 97, 98, 99, 100, 101, 102, 103, 104, 105, 106, 107, 108, 109, 110, 111, 112, 113, 114, 115, 116, 117, 118, 119, 120, 121, 122, 123, 124, 125, 126, 127, 128, 129, 130, 131, 132, 133, 134, 135, 136, 137, 138, 139, 140, 141, 142, 143, 144, 145, 146, 147, 148, 149, 150, 151, 152, 153, 154, 155, 156, 157, 158, 159, 160, 161, 162, 163, 164, 165, 166, 167, 168, 169, 170, 171, 172, 173, 182, 183, 184, 185, 186, 187, 188, 189, 190, 191, 192, 174, 175, 176, 177, 178, 179, 180, 181, 193, 194, 195] (by decide +kernel) (by decide +kernel)
set_option maxRecDepth 20000 in
theorem gX3_undo_X3_takeBack : GoodIn wsX3_undo (wsV RX3 83 RX3 yX3_takeBack wsX3_takeBack) := goodIn_app (goodIn_of _ (by decide +kernel)) ggX3_undo_X3_takeBack
theorem dX3_undo_0 : decode cX3_undo 0 = .ok (.aload_n 0, 1) := by decide +kernel
theorem dX3_undo_1 : decode cX3_undo 1 = .ok (.getfield 27, 3) := by decide +kernel
theorem dX3_undo_4 : decode cX3_undo 4 = .ok (.invokevirtual 63, 3) := by decide +kernel
theorem dX3_undo_7 : decode cX3_undo 7 = .ok (.ifCond .ne 6, 3) := by decide +kernel
theorem dX3_undo_10 : decode cX3_undo 10 = .ok (.ldc 66, 2) := by decide +kernel
theorem dX3_undo_12 : decode cX3_undo 12 = .ok (.ireturn, 1) := by decide +kernel
theorem dX3_undo_13 : decode cX3_undo 13 = .ok (.aload_n 0, 1) := by decide +kernel
theorem dX3_undo_14 : decode cX3_undo 14 = .ok (.getfield 27, 3) := by decide +kernel
theorem dX3_undo_17 : decode cX3_undo 17 = .ok (.invokevirtual 70, 3) := by decide +kernel
theorem dX3_undo_20 : decode cX3_undo 20 = .ok (.istore_n 1, 1) := by decide +kernel
theorem dX3_undo_21 : decode cX3_undo 21 = .ok (.aload_n 0, 1) := by decide +kernel
theorem dX3_undo_22 : decode cX3_undo 22 = .ok (.getfield 27, 3) := by decide +kernel
theorem dX3_undo_25 : decode cX3_undo 25 = .ok (.invokevirtual 77, 3) := by decide +kernel
theorem dX3_undo_28 : decode cX3_undo 28 = .ok (.aload_n 0, 1) := by decide +kernel
theorem dX3_undo_29 : decode cX3_undo 29 = .ok (.iload_n 1, 1) := by decide +kernel
theorem dX3_undo_30 : decode cX3_undo 30 = .ok (.aload_n 0, 1) := by decide +kernel
theorem dX3_undo_31 : decode cX3_undo 31 = .ok (.getfield 27, 3) := by decide +kernel
theorem dX3_undo_34 : decode cX3_undo 34 = .ok (.invokevirtual 80, 3) := by decide +kernel
theorem dX3_undo_37 : decode cX3_undo 37 = .ok (.invokevirtual 83, 3) := by decide +kernel
theorem dX3_undo_40 : decode cX3_undo 40 = .ok (.iload_n 1, 1) := by decide +kernel
theorem dX3_undo_41 : decode cX3_undo 41 = .ok (.ireturn, 1) := by decide +kernel
set_option maxRecDepth 20000 in
theorem ggX3_keep_X1_isOpen : GoodIn wsX3_keep wsX1_isOpen := goodIn_r _ [7, 8, 50, 51, 52, 53, 54, 55, 56, 57] (by decide +kernel) (by decide +kernel)
set_option maxRecDepth 20000 in
theorem gX3_keep_X1_isOpen : GoodIn wsX3_keep (wsV RX3 63 RX1 yX1_isOpen wsX1_isOpen) := goodIn_app (goodIn_of _ (by decide +kernel)) ggX3_keep_X1_isOpen
set_option maxRecDepth 20000 in
theorem ggX3_keep_X1_writeCount : GoodIn wsX3_keep wsX1_writeCount := goodIn_r _ [12, 13, 50, 51, 52, 53, 54, 55, 56, 57] (by decide +kernel) (by decide +kernel)
set_option maxRecDepth 20000 in
theorem gX3_keep_X1_writeCount : GoodIn wsX3_keep (wsV RX3 80 RX1 yX1_writeCount wsX1_writeCount) := goodIn_app (goodIn_of _ (by decide +kernel)) ggX3_keep_X1_writeCount
set_option maxRecDepth 20000 in
theorem ggX3_keep_X3_keepCurrent : GoodIn wsX3_keep wsX3_keepCurrent := goodIn_r _ [18, 19, 20, 1, 21, 22, 23, 24, 25, 26, 27, 28, 29, 30, 31, 32, 33, 34, 35, 36, 37, 38, 39, 40, 41, 42, 6, 43, 13, 44, 8, 45, 46, 47, 48, 49, 58, 59, 60, 61, 62, 63, 64, 65, 66, 67, 68, 50, 51, 52, 53, 54, 55, 56, 57] (by decide +kernel) (by decide +kernel)
set_option maxRecDepth 20000 in
theorem gX3_keep_X3_keepCurrent : GoodIn wsX3_keep (wsV RX3 87 RX3 yX3_keepCurrent wsX3_keepCurrent) := goodIn_app (goodIn_of _ (by decide +kernel)) ggX3_keep_X3_keepCurrent
theorem dX3_keep_0 : decode cX3_keep 0 = .ok (.aload_n 0, 1) := by decide +kernel
theorem dX3_keep_1 : decode cX3_keep 1 = .ok (.getfield 27, 3) := by decide +kernel
theorem dX3_keep_4 : decode cX3_keep 4 = .ok (.invokevirtual 63, 3) := by decide +kernel
theorem dX3_keep_7 : decode cX3_keep 7 = .ok (.ifCond .eq 6, 3) := by decide +kernel
theorem dX3_keep_10 : decode cX3_keep 10 = .ok (.ldc 66, 2) := by decide +kernel
theorem dX3_keep_12 : decode cX3_keep 12 = .ok (.ireturn, 1) := by decide +kernel
theorem dX3_keep_13 : decode cX3_keep 13 = .ok (.aload_n 0, 1) := by decide +kernel
theorem dX3_keep_14 : decode cX3_keep 14 = .ok (.getfield 27, 3) := by decide +kernel
theorem dX3_keep_17 : decode cX3_keep 17 = .ok (.invokevirtual 80, 3) := by decide +kernel
theorem dX3_keep_20 : decode cX3_keep 20 = .ok (.istore_n 1, 1) := by decide +kernel
theorem dX3_keep_21 : decode cX3_keep 21 = .ok (.aload_n 0, 1) := by decide +kernel
theorem dX3_keep_22 : decode cX3_keep 22 = .ok (.invokevirtual 87, 3) := by decide +kernel
theorem dX3_keep_25 : decode cX3_keep 25 = .ok (.iload_n 1, 1) := by decide +kernel
theorem dX3_keep_26 : decode cX3_keep 26 = .ok (.ireturn, 1) := by decide +kernel
set_option maxRecDepth 20000 in
theorem ggX3_stop_X1_writesInFirstGroups : GoodIn wsX3_stop wsX1_writesInFirstGroups := goodIn_r _ [7, 8, 9, 10, 11, 12, 13, 178, 179, 180, 181, 182, 183, 184, 185] (by decide +kernel) (by decide +kernel)
set_option maxRecDepth 20000 in
theorem gX3_stop_X1_writesInFirstGroups : GoodIn wsX3_stop (wsV RX3 90 RX1 yX1_writesInFirstGroups wsX1_writesInFirstGroups) := goodIn_app (goodIn_of _ (by decide +kernel)) ggX3_stop_X1_writesInFirstGroups
set_option maxRecDepth 20000 in
theorem ggX3_stop_X1_writeCount : GoodIn wsX3_stop wsX1_writeCount := goodIn_r _ [17, 18, 178, 179, 180, 181, 182, 183, 184, 185] (by decide +kernel) (by decide +kernel)
set_option maxRecDepth 20000 in
theorem gX3_stop_X1_writeCount : GoodIn wsX3_stop (wsV RX3 80 RX1 yX1_writeCount wsX1_writeCount) := goodIn_app (goodIn_of _ (by decide +kernel)) ggX3_stop_X1_writeCount
set_option maxRecDepth 20000 in
theorem ggX3_stop_X3_takeBack : GoodIn wsX3_stop wsX3_takeBack := goodIn_r _ [23, 24, 25, 26, 2, 27, 28, 29, 30, 31, 32, 33, 34, 35, 36, 37, 38, 39, 40, 41, 42, 43, 44, 45, 46, 47, 48, 6, 49, 50, 51, 52, 53, 54, 55, 18, 56, 57, 58, 59, 60, 61, 62, 63, 64, 65, 66, 67, 68, 69, 70, 71, 72, 73, 74, 75, 76, 77, 78, 79, 80, 22, 81, 82, 83, 84, 85, 86, 87, 88, 89, 90, 91, 92, 93, 94, 95, 96, 97, 98, 99, 100, 101, 102, 103, 104, 105, 106, 107, 108, 109, 110, 111, 112, 113, 114, 115, 116, 117, 118, 119, 120, 121, 122, 123, 124, 125, 126, 127, 128, 129, 130, 131, 132, 133, 134, 135, 136, 137, 138, 139, 140, 141, 142, 143, 144, 145, 146, 147, 148, 149, 150, 151, 152, 153, 154, 11, 155, 156, 157, 158, 159, 160, 161, 162, 163, 173, 174, 175, 176, 177, 186, 187, 188, 189, 190, 191, 192, 193, 194, 195, 196, 178, 179, 180, 181, 182, 183, 184, 185, 197, 198, 199] (by decide +kernel) (by decide +kernel)
set_option maxRecDepth 20000 in
theorem gX3_stop_X3_takeBack : GoodIn wsX3_stop (wsV RX3 83 RX3 yX3_takeBack wsX3_takeBack) := goodIn_app (goodIn_of _ (by decide +kernel)) ggX3_stop_X3_takeBack
set_option maxRecDepth 20000 in
theorem ggX3_stop_X3_keepCurrent : GoodIn wsX3_stop wsX3_keepCurrent := goodIn_r _ [167, 26, 25, 2, 27, 28, 29, 30, 31, 32, 33, 34, 35, 36, 37, 38, 39, 40, 41, 42, 43, 44, 45, 168, 169, 170, 6, 171, 18, 8, 172, 173, 174, 175, 176, 177, 186, 187, 188, 189, 190, 191, 192, 193, 194, 195, 196, 178, 179, 180, 181, 182, 183, 184, 185] (by decide +kernel) (by decide +kernel)
set_option maxRecDepth 20000 in
theorem gX3_stop_X3_keepCurrent : GoodIn wsX3_stop (wsV RX3 87 RX3 yX3_keepCurrent wsX3_keepCurrent) := goodIn_app (goodIn_of _ (by decide +kernel)) ggX3_stop_X3_keepCurrent
theorem dX3_stop_0 : decode cX3_stop 0 = .ok (.iload_n 1, 1) := by decide +kernel
theorem dX3_stop_1 : decode cX3_stop 1 = .ok (.ifCond .ge 6, 3) := by decide +kernel
theorem dX3_stop_4 : decode cX3_stop 4 = .ok (.ldc 32, 2) := by decide +kernel
theorem dX3_stop_6 : decode cX3_stop 6 = .ok (.ireturn, 1) := by decide +kernel
theorem dX3_stop_7 : decode cX3_stop 7 = .ok (.aload_n 0, 1) := by decide +kernel
theorem dX3_stop_8 : decode cX3_stop 8 = .ok (.getfield 27, 3) := by decide +kernel
theorem dX3_stop_11 : decode cX3_stop 11 = .ok (.iload_n 1, 1) := by decide +kernel
theorem dX3_stop_12 : decode cX3_stop 12 = .ok (.invokevirtual 90, 3) := by decide +kernel
theorem dX3_stop_15 : decode cX3_stop 15 = .ok (.istore_n 2, 1) := by decide +kernel
theorem dX3_stop_16 : decode cX3_stop 16 = .ok (.aload_n 0, 1) := by decide +kernel
theorem dX3_stop_17 : decode cX3_stop 17 = .ok (.getfield 27, 3) := by decide +kernel
theorem dX3_stop_20 : decode cX3_stop 20 = .ok (.invokevirtual 80, 3) := by decide +kernel
theorem dX3_stop_23 : decode cX3_stop 23 = .ok (.iload_n 2, 1) := by decide +kernel
theorem dX3_stop_24 : decode cX3_stop 24 = .ok (.isub, 1) := by decide +kernel
theorem dX3_stop_25 : decode cX3_stop 25 = .ok (.istore_n 3, 1) := by decide +kernel
theorem dX3_stop_26 : decode cX3_stop 26 = .ok (.aload_n 0, 1) := by decide +kernel
theorem dX3_stop_27 : decode cX3_stop 27 = .ok (.iload_n 3, 1) := by decide +kernel
theorem dX3_stop_28 : decode cX3_stop 28 = .ok (.iload_n 2, 1) := by decide +kernel
theorem dX3_stop_29 : decode cX3_stop 29 = .ok (.invokevirtual 83, 3) := by decide +kernel
theorem dX3_stop_32 : decode cX3_stop 32 = .ok (.aload_n 0, 1) := by decide +kernel
theorem dX3_stop_33 : decode cX3_stop 33 = .ok (.invokevirtual 87, 3) := by decide +kernel
theorem dX3_stop_36 : decode cX3_stop 36 = .ok (.iload_n 3, 1) := by decide +kernel
theorem dX3_stop_37 : decode cX3_stop 37 = .ok (.ireturn, 1) := by decide +kernel
set_option maxRecDepth 20000 in
theorem ggX3_address_X2_addressOf : GoodIn wsX3_address wsX2_addressOf := goodIn_r _ [6, 7, 8, 9, 15, 16, 17, 18, 19, 20, 21, 22, 23, 24, 25] (by decide +kernel) (by decide +kernel)
set_option maxRecDepth 20000 in
theorem gX3_address_X2_addressOf : GoodIn wsX3_address (wsV RX3 93 RX2 yX2_addressOf wsX2_addressOf) := goodIn_app (goodIn_of _ (by decide +kernel)) ggX3_address_X2_addressOf
theorem dX3_address_0 : decode cX3_address 0 = .ok (.aload_n 0, 1) := by decide +kernel
theorem dX3_address_1 : decode cX3_address 1 = .ok (.getfield 17, 3) := by decide +kernel
theorem dX3_address_4 : decode cX3_address 4 = .ok (.iload_n 1, 1) := by decide +kernel
theorem dX3_address_5 : decode cX3_address 5 = .ok (.invokevirtual 93, 3) := by decide +kernel
theorem dX3_address_8 : decode cX3_address 8 = .ok (.ireturn, 1) := by decide +kernel
set_option maxRecDepth 20000 in
theorem ggX3_bucket_X2_bucketCount : GoodIn wsX3_bucket wsX2_bucketCount := goodIn_r _ [7, 8, 9, 43, 44, 45, 46, 47, 48, 49, 50, 51, 52, 53] (by decide +kernel) (by decide +kernel)
set_option maxRecDepth 20000 in
theorem gX3_bucket_X2_bucketCount : GoodIn wsX3_bucket (wsV RX3 96 RX2 yX2_bucketCount wsX2_bucketCount) := goodIn_app (goodIn_of _ (by decide +kernel)) ggX3_bucket_X2_bucketCount
set_option maxRecDepth 20000 in
theorem ggX3_bucket_X2_entriesInChain : GoodIn wsX3_bucket wsX2_entriesInChain := goodIn_r _ [13, 14, 15, 16, 6, 17, 18, 19, 20, 21, 22, 23, 24, 25, 26, 27, 28, 29, 30, 31, 32, 33, 34, 35, 43, 44, 45, 46, 47, 48, 49, 50, 51, 52, 53] (by decide +kernel) (by decide +kernel)
set_option maxRecDepth 20000 in
theorem gX3_bucket_X2_entriesInChain : GoodIn wsX3_bucket (wsV RX3 99 RX2 yX2_entriesInChain wsX2_entriesInChain) := goodIn_app (goodIn_of _ (by decide +kernel)) ggX3_bucket_X2_entriesInChain
set_option maxRecDepth 20000 in
theorem ggX3_bucket_X2_pagesInChain : GoodIn wsX3_bucket wsX2_pagesInChain := goodIn_r _ [17, 18, 19, 20, 21, 43, 44, 45, 46, 47, 48, 49, 50, 51, 52, 53] (by decide +kernel) (by decide +kernel)
set_option maxRecDepth 20000 in
theorem gX3_bucket_X2_pagesInChain : GoodIn wsX3_bucket (wsV RX3 102 RX2 yX2_pagesInChain wsX2_pagesInChain) := goodIn_app (goodIn_of _ (by decide +kernel)) ggX3_bucket_X2_pagesInChain
set_option maxRecDepth 20000 in
theorem ggX3_bucket_X2_lastPage : GoodIn wsX3_bucket wsX2_lastPage := goodIn_r _ [25, 26, 27, 28, 29, 6, 30, 43, 44, 45, 46, 47, 48, 49, 50, 51, 52, 53] (by decide +kernel) (by decide +kernel)
set_option maxRecDepth 20000 in
theorem gX3_bucket_X2_lastPage : GoodIn wsX3_bucket (wsV RX3 105 RX2 yX2_lastPage wsX2_lastPage) := goodIn_app (goodIn_of _ (by decide +kernel)) ggX3_bucket_X2_lastPage
theorem dX3_bucket_0 : decode cX3_bucket 0 = .ok (.iload_n 1, 1) := by decide +kernel
theorem dX3_bucket_1 : decode cX3_bucket 1 = .ok (.ifCond .lt 14, 3) := by decide +kernel
theorem dX3_bucket_4 : decode cX3_bucket 4 = .ok (.iload_n 1, 1) := by decide +kernel
theorem dX3_bucket_5 : decode cX3_bucket 5 = .ok (.aload_n 0, 1) := by decide +kernel
theorem dX3_bucket_6 : decode cX3_bucket 6 = .ok (.getfield 17, 3) := by decide +kernel
theorem dX3_bucket_9 : decode cX3_bucket 9 = .ok (.invokevirtual 96, 3) := by decide +kernel
theorem dX3_bucket_12 : decode cX3_bucket 12 = .ok (.if_icmp .lt 6, 3) := by decide +kernel
theorem dX3_bucket_15 : decode cX3_bucket 15 = .ok (.ldc 32, 2) := by decide +kernel
theorem dX3_bucket_17 : decode cX3_bucket 17 = .ok (.ireturn, 1) := by decide +kernel
theorem dX3_bucket_18 : decode cX3_bucket 18 = .ok (.iload_n 2, 1) := by decide +kernel
theorem dX3_bucket_19 : decode cX3_bucket 19 = .ok (.tableswitch 52 0 2 #[25, 34, 43], 25) := by decide +kernel
theorem dX3_bucket_44 : decode cX3_bucket 44 = .ok (.aload_n 0, 1) := by decide +kernel
theorem dX3_bucket_45 : decode cX3_bucket 45 = .ok (.getfield 17, 3) := by decide +kernel
theorem dX3_bucket_48 : decode cX3_bucket 48 = .ok (.iload_n 1, 1) := by decide +kernel
theorem dX3_bucket_49 : decode cX3_bucket 49 = .ok (.invokevirtual 99, 3) := by decide +kernel
theorem dX3_bucket_52 : decode cX3_bucket 52 = .ok (.ireturn, 1) := by decide +kernel
theorem dX3_bucket_53 : decode cX3_bucket 53 = .ok (.aload_n 0, 1) := by decide +kernel
theorem dX3_bucket_54 : decode cX3_bucket 54 = .ok (.getfield 17, 3) := by decide +kernel
theorem dX3_bucket_57 : decode cX3_bucket 57 = .ok (.iload_n 1, 1) := by decide +kernel
theorem dX3_bucket_58 : decode cX3_bucket 58 = .ok (.invokevirtual 102, 3) := by decide +kernel
theorem dX3_bucket_61 : decode cX3_bucket 61 = .ok (.ireturn, 1) := by decide +kernel
theorem dX3_bucket_62 : decode cX3_bucket 62 = .ok (.aload_n 0, 1) := by decide +kernel
theorem dX3_bucket_63 : decode cX3_bucket 63 = .ok (.getfield 17, 3) := by decide +kernel
theorem dX3_bucket_66 : decode cX3_bucket 66 = .ok (.iload_n 1, 1) := by decide +kernel
theorem dX3_bucket_67 : decode cX3_bucket 67 = .ok (.invokevirtual 105, 3) := by decide +kernel
theorem dX3_bucket_70 : decode cX3_bucket 70 = .ok (.ireturn, 1) := by decide +kernel
theorem dX3_bucket_71 : decode cX3_bucket 71 = .ok (.ldc 32, 2) := by decide +kernel
theorem dX3_bucket_73 : decode cX3_bucket 73 = .ok (.ireturn, 1) := by decide +kernel
set_option maxRecDepth 20000 in
theorem ggX3_page_X3_isPage : GoodIn wsX3_page wsX3_isPage := goodIn_r _ [6] (by decide +kernel) (by decide +kernel)
set_option maxRecDepth 20000 in
theorem gX3_page_X3_isPage : GoodIn wsX3_page (va_wsS RX3 108 yX3_isPage wsX3_isPage) := goodIn_app (goodIn_of _ (by decide +kernel)) ggX3_page_X3_isPage
