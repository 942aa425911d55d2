set_option maxRecDepth 20000 in
theorem ggX3_page_X2_entriesOnPage : GoodIn wsX3_page wsX2_entriesOnPage := goodIn_r _ [11, 12, 4, 5, 6, 35, 36, 37, 38, 39, 40, 41, 42, 43, 44, 45] (by decide +kernel) (by decide +kernel)
set_option maxRecDepth 20000 in
theorem gX3_page_X2_entriesOnPage : GoodIn wsX3_page (wsV RX3 111 RX2 yX2_entriesOnPage wsX2_entriesOnPage) := goodIn_app (goodIn_of _ (by decide +kernel)) ggX3_page_X2_entriesOnPage
set_option maxRecDepth 20000 in
theorem ggX3_page_X2_pageBehind : GoodIn wsX3_page wsX2_pageBehind := goodIn_r _ [16, 17, 18, 4, 5, 6, 35, 36, 37, 38, 39, 40, 41, 42, 43, 44, 45] (by decide +kernel) (by decide +kernel)
set_option maxRecDepth 20000 in
theorem gX3_page_X2_pageBehind : GoodIn wsX3_page (wsV RX3 114 RX2 yX2_pageBehind wsX2_pageBehind) := goodIn_app (goodIn_of _ (by decide +kernel)) ggX3_page_X2_pageBehind
set_option maxRecDepth 20000 in
theorem ggX3_page_X2_bucketOfPage : GoodIn wsX3_page wsX2_bucketOfPage := goodIn_r _ [22, 18, 23, 4, 5, 6, 24, 25, 26, 10, 27, 28, 29, 35, 36, 37, 38, 39, 40, 41, 42, 43, 44, 45] (by decide +kernel) (by decide +kernel)
set_option maxRecDepth 20000 in
theorem gX3_page_X2_bucketOfPage : GoodIn wsX3_page (wsV RX3 117 RX2 yX2_bucketOfPage wsX2_bucketOfPage) := goodIn_app (goodIn_of _ (by decide +kernel)) ggX3_page_X2_bucketOfPage
theorem dX3_page_0 : decode cX3_page 0 = .ok (.iload_n 1, 1) := by decide +kernel
theorem dX3_page_1 : decode cX3_page 1 = .ok (.invokestatic 108, 3) := by decide +kernel
theorem dX3_page_4 : decode cX3_page 4 = .ok (.ifCond .ne 6, 3) := by decide +kernel
theorem dX3_page_7 : decode cX3_page 7 = .ok (.ldc 32, 2) := by decide +kernel
theorem dX3_page_9 : decode cX3_page 9 = .ok (.ireturn, 1) := by decide +kernel
theorem dX3_page_10 : decode cX3_page 10 = .ok (.iload_n 2, 1) := by decide +kernel
theorem dX3_page_11 : decode cX3_page 11 = .ok (.tableswitch 52 0 2 #[25, 34, 43], 25) := by decide +kernel
theorem dX3_page_36 : decode cX3_page 36 = .ok (.aload_n 0, 1) := by decide +kernel
theorem dX3_page_37 : decode cX3_page 37 = .ok (.getfield 17, 3) := by decide +kernel
theorem dX3_page_40 : decode cX3_page 40 = .ok (.iload_n 1, 1) := by decide +kernel
theorem dX3_page_41 : decode cX3_page 41 = .ok (.invokevirtual 111, 3) := by decide +kernel
theorem dX3_page_44 : decode cX3_page 44 = .ok (.ireturn, 1) := by decide +kernel
theorem dX3_page_45 : decode cX3_page 45 = .ok (.aload_n 0, 1) := by decide +kernel
theorem dX3_page_46 : decode cX3_page 46 = .ok (.getfield 17, 3) := by decide +kernel
theorem dX3_page_49 : decode cX3_page 49 = .ok (.iload_n 1, 1) := by decide +kernel
theorem dX3_page_50 : decode cX3_page 50 = .ok (.invokevirtual 114, 3) := by decide +kernel
theorem dX3_page_53 : decode cX3_page 53 = .ok (.ireturn, 1) := by decide +kernel
theorem dX3_page_54 : decode cX3_page 54 = .ok (.aload_n 0, 1) := by decide +kernel
theorem dX3_page_55 : decode cX3_page 55 = .ok (.getfield 17, 3) := by decide +kernel
theorem dX3_page_58 : decode cX3_page 58 = .ok (.iload_n 1, 1) := by decide +kernel
theorem dX3_page_59 : decode cX3_page 59 = .ok (.invokevirtual 117, 3) := by decide +kernel
theorem dX3_page_62 : decode cX3_page 62 = .ok (.ireturn, 1) := by decide +kernel
theorem dX3_page_63 : decode cX3_page 63 = .ok (.ldc 32, 2) := by decide +kernel
theorem dX3_page_65 : decode cX3_page 65 = .ok (.ireturn, 1) := by decide +kernel
set_option maxRecDepth 20000 in
theorem ggX3_cell_X3_isPage : GoodIn wsX3_cell wsX3_isPage := goodIn_r _ [7] (by decide +kernel) (by decide +kernel)
set_option maxRecDepth 20000 in
theorem gX3_cell_X3_isPage : GoodIn wsX3_cell (va_wsS RX3 108 yX3_isPage wsX3_isPage) := goodIn_app (goodIn_of _ (by decide +kernel)) ggX3_cell_X3_isPage
set_option maxRecDepth 20000 in
theorem ggX3_cell_X2_entriesOnPage : GoodIn wsX3_cell wsX2_entriesOnPage := goodIn_r _ [12, 13, 5, 6, 7, 30, 31, 32, 33, 34, 35, 36, 37, 38, 39, 40] (by decide +kernel) (by decide +kernel)
set_option maxRecDepth 20000 in
theorem gX3_cell_X2_entriesOnPage : GoodIn wsX3_cell (wsV RX3 111 RX2 yX2_entriesOnPage wsX2_entriesOnPage) := goodIn_app (goodIn_of _ (by decide +kernel)) ggX3_cell_X2_entriesOnPage
set_option maxRecDepth 20000 in
theorem ggX3_cell_X2_keyIn : GoodIn wsX3_cell wsX2_keyIn := goodIn_r _ [17, 18, 19, 30, 31, 32, 33, 34, 35, 36, 37, 38, 39, 40] (by decide +kernel) (by decide +kernel)
set_option maxRecDepth 20000 in
theorem gX3_cell_X2_keyIn : GoodIn wsX3_cell (wsV RX3 120 RX2 yX2_keyIn wsX2_keyIn) := goodIn_app (goodIn_of _ (by decide +kernel)) ggX3_cell_X2_keyIn
set_option maxRecDepth 20000 in
theorem ggX3_cell_X2_valueIn : GoodIn wsX3_cell wsX2_valueIn := goodIn_r _ [23, 24, 19, 30, 31, 32, 33, 34, 35, 36, 37, 38, 39, 40] (by decide +kernel) (by decide +kernel)
set_option maxRecDepth 20000 in
theorem gX3_cell_X2_valueIn : GoodIn wsX3_cell (wsV RX3 52 RX2 yX2_valueIn wsX2_valueIn) := goodIn_app (goodIn_of _ (by decide +kernel)) ggX3_cell_X2_valueIn
theorem dX3_cell_0 : decode cX3_cell 0 = .ok (.iload_n 1, 1) := by decide +kernel
theorem dX3_cell_1 : decode cX3_cell 1 = .ok (.invokestatic 108, 3) := by decide +kernel
theorem dX3_cell_4 : decode cX3_cell 4 = .ok (.ifCond .eq 21, 3) := by decide +kernel
theorem dX3_cell_7 : decode cX3_cell 7 = .ok (.iload_n 2, 1) := by decide +kernel
theorem dX3_cell_8 : decode cX3_cell 8 = .ok (.ifCond .lt 17, 3) := by decide +kernel
theorem dX3_cell_11 : decode cX3_cell 11 = .ok (.iload_n 2, 1) := by decide +kernel
theorem dX3_cell_12 : decode cX3_cell 12 = .ok (.iconst 4, 1) := by decide +kernel
theorem dX3_cell_13 : decode cX3_cell 13 = .ok (.if_icmp .ge 12, 3) := by decide +kernel
theorem dX3_cell_16 : decode cX3_cell 16 = .ok (.iload_n 3, 1) := by decide +kernel
theorem dX3_cell_17 : decode cX3_cell 17 = .ok (.ifCond .lt 8, 3) := by decide +kernel
theorem dX3_cell_20 : decode cX3_cell 20 = .ok (.iload_n 3, 1) := by decide +kernel
theorem dX3_cell_21 : decode cX3_cell 21 = .ok (.iconst 1, 1) := by decide +kernel
theorem dX3_cell_22 : decode cX3_cell 22 = .ok (.if_icmp .le 6, 3) := by decide +kernel
theorem dX3_cell_25 : decode cX3_cell 25 = .ok (.ldc 32, 2) := by decide +kernel
theorem dX3_cell_27 : decode cX3_cell 27 = .ok (.ireturn, 1) := by decide +kernel
theorem dX3_cell_28 : decode cX3_cell 28 = .ok (.iload_n 2, 1) := by decide +kernel
theorem dX3_cell_29 : decode cX3_cell 29 = .ok (.aload_n 0, 1) := by decide +kernel
theorem dX3_cell_30 : decode cX3_cell 30 = .ok (.getfield 17, 3) := by decide +kernel
theorem dX3_cell_33 : decode cX3_cell 33 = .ok (.iload_n 1, 1) := by decide +kernel
theorem dX3_cell_34 : decode cX3_cell 34 = .ok (.invokevirtual 111, 3) := by decide +kernel
theorem dX3_cell_37 : decode cX3_cell 37 = .ok (.if_icmp .lt 6, 3) := by decide +kernel
theorem dX3_cell_40 : decode cX3_cell 40 = .ok (.ldc 66, 2) := by decide +kernel
theorem dX3_cell_42 : decode cX3_cell 42 = .ok (.ireturn, 1) := by decide +kernel
theorem dX3_cell_43 : decode cX3_cell 43 = .ok (.iload_n 1, 1) := by decide +kernel
theorem dX3_cell_44 : decode cX3_cell 44 = .ok (.iconst 4, 1) := by decide +kernel
theorem dX3_cell_45 : decode cX3_cell 45 = .ok (.imul, 1) := by decide +kernel
theorem dX3_cell_46 : decode cX3_cell 46 = .ok (.iload_n 2, 1) := by decide +kernel
theorem dX3_cell_47 : decode cX3_cell 47 = .ok (.iadd, 1) := by decide +kernel
theorem dX3_cell_48 : decode cX3_cell 48 = .ok (.istore 4, 2) := by decide +kernel
theorem dX3_cell_50 : decode cX3_cell 50 = .ok (.iload_n 3, 1) := by decide +kernel
theorem dX3_cell_51 : decode cX3_cell 51 = .ok (.ifCond .ne 15, 3) := by decide +kernel
theorem dX3_cell_54 : decode cX3_cell 54 = .ok (.aload_n 0, 1) := by decide +kernel
theorem dX3_cell_55 : decode cX3_cell 55 = .ok (.getfield 17, 3) := by decide +kernel
theorem dX3_cell_58 : decode cX3_cell 58 = .ok (.iload 4, 2) := by decide +kernel
theorem dX3_cell_60 : decode cX3_cell 60 = .ok (.invokevirtual 120, 3) := by decide +kernel
theorem dX3_cell_63 : decode cX3_cell 63 = .ok (.goto 12, 3) := by decide +kernel
theorem dX3_cell_66 : decode cX3_cell 66 = .ok (.aload_n 0, 1) := by decide +kernel
theorem dX3_cell_67 : decode cX3_cell 67 = .ok (.getfield 17, 3) := by decide +kernel
theorem dX3_cell_70 : decode cX3_cell 70 = .ok (.iload 4, 2) := by decide +kernel
theorem dX3_cell_72 : decode cX3_cell 72 = .ok (.invokevirtual 52, 3) := by decide +kernel
theorem dX3_cell_75 : decode cX3_cell 75 = .ok (.ireturn, 1) := by decide +kernel
set_option maxRecDepth 20000 in
theorem ggX3_entry_X2_cellOfEntry : GoodIn wsX3_entry wsX2_cellOfEntry := goodIn_r _ [8, 9, 10, 11, 12, 13, 14, 7, 15, 16, 17, 18, 19, 20, 31, 32, 33, 34, 35, 36, 37, 38, 39, 40, 41] (by decide +kernel) (by decide +kernel)
set_option maxRecDepth 20000 in
theorem gX3_entry_X2_cellOfEntry : GoodIn wsX3_entry (wsV RX3 123 RX2 yX2_cellOfEntry wsX2_cellOfEntry) := goodIn_app (goodIn_of _ (by decide +kernel)) ggX3_entry_X2_cellOfEntry
set_option maxRecDepth 20000 in
theorem ggX3_entry_X2_valueIn : GoodIn wsX3_entry wsX2_valueIn := goodIn_r _ [24, 25, 11, 31, 32, 33, 34, 35, 36, 37, 38, 39, 40, 41] (by decide +kernel) (by decide +kernel)
set_option maxRecDepth 20000 in
theorem gX3_entry_X2_valueIn : GoodIn wsX3_entry (wsV RX3 52 RX2 yX2_valueIn wsX2_valueIn) := goodIn_app (goodIn_of _ (by decide +kernel)) ggX3_entry_X2_valueIn
theorem dX3_entry_0 : decode cX3_entry 0 = .ok (.iload_n 1, 1) := by decide +kernel
theorem dX3_entry_1 : decode cX3_entry 1 = .ok (.ifCond .ge 6, 3) := by decide +kernel
theorem dX3_entry_4 : decode cX3_entry 4 = .ok (.ldc 32, 2) := by decide +kernel
theorem dX3_entry_6 : decode cX3_entry 6 = .ok (.ireturn, 1) := by decide +kernel
theorem dX3_entry_7 : decode cX3_entry 7 = .ok (.aload_n 0, 1) := by decide +kernel
theorem dX3_entry_8 : decode cX3_entry 8 = .ok (.getfield 17, 3) := by decide +kernel
theorem dX3_entry_11 : decode cX3_entry 11 = .ok (.iload_n 1, 1) := by decide +kernel
theorem dX3_entry_12 : decode cX3_entry 12 = .ok (.invokevirtual 123, 3) := by decide +kernel
theorem dX3_entry_15 : decode cX3_entry 15 = .ok (.istore_n 2, 1) := by decide +kernel
theorem dX3_entry_16 : decode cX3_entry 16 = .ok (.iload_n 2, 1) := by decide +kernel
theorem dX3_entry_17 : decode cX3_entry 17 = .ok (.ldc 37, 2) := by decide +kernel
theorem dX3_entry_19 : decode cX3_entry 19 = .ok (.if_icmp .ne 8, 3) := by decide +kernel
theorem dX3_entry_22 : decode cX3_entry 22 = .ok (.ldc 37, 2) := by decide +kernel
theorem dX3_entry_24 : decode cX3_entry 24 = .ok (.goto 11, 3) := by decide +kernel
theorem dX3_entry_27 : decode cX3_entry 27 = .ok (.aload_n 0, 1) := by decide +kernel
theorem dX3_entry_28 : decode cX3_entry 28 = .ok (.getfield 17, 3) := by decide +kernel
theorem dX3_entry_31 : decode cX3_entry 31 = .ok (.iload_n 2, 1) := by decide +kernel
theorem dX3_entry_32 : decode cX3_entry 32 = .ok (.invokevirtual 52, 3) := by decide +kernel
theorem dX3_entry_35 : decode cX3_entry 35 = .ok (.ireturn, 1) := by decide +kernel
set_option maxRecDepth 20000 in
theorem ggX3_effort_X2_effortForAll : GoodIn wsX3_effort wsX2_effortForAll := goodIn_r _ [6, 7, 8, 9, 10, 11, 5, 12, 13, 14, 15, 16, 17, 23, 24, 25, 26, 27, 28, 29, 30, 31, 32, 33] (by decide +kernel) (by decide +kernel)
set_option maxRecDepth 20000 in
theorem gX3_effort_X2_effortForAll : GoodIn wsX3_effort (wsV RX3 126 RX2 yX2_effortForAll wsX2_effortForAll) := goodIn_app (goodIn_of _ (by decide +kernel)) ggX3_effort_X2_effortForAll
theorem dX3_effort_0 : decode cX3_effort 0 = .ok (.aload_n 0, 1) := by decide +kernel
theorem dX3_effort_1 : decode cX3_effort 1 = .ok (.getfield 17, 3) := by decide +kernel
theorem dX3_effort_4 : decode cX3_effort 4 = .ok (.invokevirtual 126, 3) := by decide +kernel
theorem dX3_effort_7 : decode cX3_effort 7 = .ok (.ireturn, 1) := by decide +kernel
set_option maxRecDepth 20000 in
theorem ggX3_count_X2_entryCount : GoodIn wsX3_count wsX2_entryCount := goodIn_r _ [10, 11, 70, 71, 72, 73, 74, 75, 76, 77, 78, 79, 80] (by decide +kernel) (by decide +kernel)
set_option maxRecDepth 20000 in
theorem gX3_count_X2_entryCount : GoodIn wsX3_count (wsV RX3 129 RX2 yX2_entryCount wsX2_entryCount) := goodIn_app (goodIn_of _ (by decide +kernel)) ggX3_count_X2_entryCount
set_option maxRecDepth 20000 in
theorem ggX3_count_X2_bucketCount : GoodIn wsX3_count wsX2_bucketCount := goodIn_r _ [15, 16, 17, 70, 71, 72, 73, 74, 75, 76, 77, 78, 79, 80] (by decide +kernel) (by decide +kernel)
set_option maxRecDepth 20000 in
theorem gX3_count_X2_bucketCount : GoodIn wsX3_count (wsV RX3 96 RX2 yX2_bucketCount wsX2_bucketCount) := goodIn_app (goodIn_of _ (by decide +kernel)) ggX3_count_X2_bucketCount
set_option maxRecDepth 20000 in
theorem ggX3_count_X2_levelNumber : GoodIn wsX3_count wsX2_levelNumber := goodIn_r _ [21, 16, 70, 71, 72, 73, 74, 75, 76, 77, 78, 79, 80] (by decide +kernel) (by decide +kernel)
set_option maxRecDepth 20000 in
theorem gX3_count_X2_levelNumber : GoodIn wsX3_count (wsV RX3 132 RX2 yX2_levelNumber wsX2_levelNumber) := goodIn_app (goodIn_of _ (by decide +kernel)) ggX3_count_X2_levelNumber
set_option maxRecDepth 20000 in
theorem ggX3_count_X2_splitNumber : GoodIn wsX3_count wsX2_splitNumber := goodIn_r _ [25, 17, 70, 71, 72, 73, 74, 75, 76, 77, 78, 79, 80] (by decide +kernel) (by decide +kernel)
set_option maxRecDepth 20000 in
theorem gX3_count_X2_splitNumber : GoodIn wsX3_count (wsV RX3 135 RX2 yX2_splitNumber wsX2_splitNumber) := goodIn_app (goodIn_of _ (by decide +kernel)) ggX3_count_X2_splitNumber
set_option maxRecDepth 20000 in
theorem ggX3_count_X2_freePages : GoodIn wsX3_count wsX2_freePages := goodIn_r _ [29, 30, 31, 70, 71, 72, 73, 74, 75, 76, 77, 78, 79, 80] (by decide +kernel) (by decide +kernel)
set_option maxRecDepth 20000 in
theorem gX3_count_X2_freePages : GoodIn wsX3_count (wsV RX3 138 RX2 yX2_freePages wsX2_freePages) := goodIn_app (goodIn_of _ (by decide +kernel)) ggX3_count_X2_freePages
set_option maxRecDepth 20000 in
theorem ggX3_count_X1_writeCount : GoodIn wsX3_count wsX1_writeCount := goodIn_r _ [36, 37, 81, 82, 83, 84, 85, 86, 87, 88] (by decide +kernel) (by decide +kernel)
set_option maxRecDepth 20000 in
theorem gX3_count_X1_writeCount : GoodIn wsX3_count (wsV RX3 80 RX1 yX1_writeCount wsX1_writeCount) := goodIn_app (goodIn_of _ (by decide +kernel)) ggX3_count_X1_writeCount
set_option maxRecDepth 20000 in
theorem ggX3_count_X1_groupCount : GoodIn wsX3_count wsX1_groupCount := goodIn_r _ [41, 42, 81, 82, 83, 84, 85, 86, 87, 88] (by decide +kernel) (by decide +kernel)
set_option maxRecDepth 20000 in
theorem gX3_count_X1_groupCount : GoodIn wsX3_count (wsV RX3 141 RX1 yX1_groupCount wsX1_groupCount) := goodIn_app (goodIn_of _ (by decide +kernel)) ggX3_count_X1_groupCount
set_option maxRecDepth 20000 in
theorem ggX3_count_X1_isOpen : GoodIn wsX3_count wsX1_isOpen := goodIn_r _ [46, 47, 81, 82, 83, 84, 85, 86, 87, 88] (by decide +kernel) (by decide +kernel)
set_option maxRecDepth 20000 in
theorem gX3_count_X1_isOpen : GoodIn wsX3_count (wsV RX3 63 RX1 yX1_isOpen wsX1_isOpen) := goodIn_app (goodIn_of _ (by decide +kernel)) ggX3_count_X1_isOpen
set_option maxRecDepth 20000 in
theorem ggX3_count_X2_longestChain : GoodIn wsX3_count wsX2_longestChain := goodIn_r _ [51, 52, 53, 54, 55, 56, 13, 14, 9, 15, 16, 17, 57, 58, 59, 60, 61, 62, 63, 64, 70, 71, 72, 73, 74, 75, 76, 77, 78, 79, 80] (by decide +kernel) (by decide +kernel)
set_option maxRecDepth 20000 in
theorem gX3_count_X2_longestChain : GoodIn wsX3_count (wsV RX3 147 RX2 yX2_longestChain wsX2_longestChain) := goodIn_app (goodIn_of _ (by decide +kernel)) ggX3_count_X2_longestChain
theorem dX3_count_0 : decode cX3_count 0 = .ok (.iload_n 1, 1) := by decide +kernel
theorem dX3_count_1 : decode cX3_count 1 = .ok (.tableswitch 149 0 10 #[59, 67, 75, 83, 91, 99, 107, 115, 131, 136, 141], 59) := by decide +kernel
theorem dX3_count_60 : decode cX3_count 60 = .ok (.aload_n 0, 1) := by decide +kernel
theorem dX3_count_61 : decode cX3_count 61 = .ok (.getfield 17, 3) := by decide +kernel
theorem dX3_count_64 : decode cX3_count 64 = .ok (.invokevirtual 129, 3) := by decide +kernel
theorem dX3_count_67 : decode cX3_count 67 = .ok (.ireturn, 1) := by decide +kernel
theorem dX3_count_68 : decode cX3_count 68 = .ok (.aload_n 0, 1) := by decide +kernel
theorem dX3_count_69 : decode cX3_count 69 = .ok (.getfield 17, 3) := by decide +kernel
theorem dX3_count_72 : decode cX3_count 72 = .ok (.invokevirtual 96, 3) := by decide +kernel
theorem dX3_count_75 : decode cX3_count 75 = .ok (.ireturn, 1) := by decide +kernel
theorem dX3_count_76 : decode cX3_count 76 = .ok (.aload_n 0, 1) := by decide +kernel
theorem dX3_count_77 : decode cX3_count 77 = .ok (.getfield 17, 3) := by decide +kernel
theorem dX3_count_80 : decode cX3_count 80 = .ok (.invokevirtual 132, 3) := by decide +kernel
theorem dX3_count_83 : decode cX3_count 83 = .ok (.ireturn, 1) := by decide +kernel
theorem dX3_count_84 : decode cX3_count 84 = .ok (.aload_n 0, 1) := by decide +kernel
theorem dX3_count_85 : decode cX3_count 85 = .ok (.getfield 17, 3) := by decide +kernel
theorem dX3_count_88 : decode cX3_count 88 = .ok (.invokevirtual 135, 3) := by decide +kernel
theorem dX3_count_91 : decode cX3_count 91 = .ok (.ireturn, 1) := by decide +kernel
theorem dX3_count_92 : decode cX3_count 92 = .ok (.aload_n 0, 1) := by decide +kernel
theorem dX3_count_93 : decode cX3_count 93 = .ok (.getfield 17, 3) := by decide +kernel
theorem dX3_count_96 : decode cX3_count 96 = .ok (.invokevirtual 138, 3) := by decide +kernel
theorem dX3_count_99 : decode cX3_count 99 = .ok (.ireturn, 1) := by decide +kernel
theorem dX3_count_100 : decode cX3_count 100 = .ok (.aload_n 0, 1) := by decide +kernel
theorem dX3_count_101 : decode cX3_count 101 = .ok (.getfield 27, 3) := by decide +kernel
theorem dX3_count_104 : decode cX3_count 104 = .ok (.invokevirtual 80, 3) := by decide +kernel
theorem dX3_count_107 : decode cX3_count 107 = .ok (.ireturn, 1) := by decide +kernel
theorem dX3_count_108 : decode cX3_count 108 = .ok (.aload_n 0, 1) := by decide +kernel
theorem dX3_count_109 : decode cX3_count 109 = .ok (.getfield 27, 3) := by decide +kernel
theorem dX3_count_112 : decode cX3_count 112 = .ok (.invokevirtual 141, 3) := by decide +kernel
theorem dX3_count_115 : decode cX3_count 115 = .ok (.ireturn, 1) := by decide +kernel
theorem dX3_count_116 : decode cX3_count 116 = .ok (.aload_n 0, 1) := by decide +kernel
theorem dX3_count_117 : decode cX3_count 117 = .ok (.getfield 27, 3) := by decide +kernel
theorem dX3_count_120 : decode cX3_count 120 = .ok (.invokevirtual 63, 3) := by decide +kernel
theorem dX3_count_123 : decode cX3_count 123 = .ok (.ifCond .eq 7, 3) := by decide +kernel
theorem dX3_count_126 : decode cX3_count 126 = .ok (.iconst 1, 1) := by decide +kernel
theorem dX3_count_127 : decode cX3_count 127 = .ok (.goto 4, 3) := by decide +kernel
theorem dX3_count_130 : decode cX3_count 130 = .ok (.iconst 0, 1) := by decide +kernel
theorem dX3_count_131 : decode cX3_count 131 = .ok (.ireturn, 1) := by decide +kernel
theorem dX3_count_132 : decode cX3_count 132 = .ok (.aload_n 0, 1) := by decide +kernel
theorem dX3_count_133 : decode cX3_count 133 = .ok (.getfield 55, 3) := by decide +kernel
theorem dX3_count_136 : decode cX3_count 136 = .ok (.ireturn, 1) := by decide +kernel
theorem dX3_count_137 : decode cX3_count 137 = .ok (.aload_n 0, 1) := by decide +kernel
theorem dX3_count_138 : decode cX3_count 138 = .ok (.getfield 144, 3) := by decide +kernel
theorem dX3_count_141 : decode cX3_count 141 = .ok (.ireturn, 1) := by decide +kernel
theorem dX3_count_142 : decode cX3_count 142 = .ok (.aload_n 0, 1) := by decide +kernel
theorem dX3_count_143 : decode cX3_count 143 = .ok (.getfield 17, 3) := by decide +kernel
theorem dX3_count_146 : decode cX3_count 146 = .ok (.invokevirtual 147, 3) := by decide +kernel
theorem dX3_count_149 : decode cX3_count 149 = .ok (.ireturn, 1) := by decide +kernel
theorem dX3_count_150 : decode cX3_count 150 = .ok (.ldc 32, 2) := by decide +kernel
theorem dX3_count_152 : decode cX3_count 152 = .ok (.ireturn, 1) := by decide +kernel
theorem dX3_isPage_0 : decode cX3_isPage 0 = .ok (.iload_n 0, 1) := by decide +kernel
theorem dX3_isPage_1 : decode cX3_isPage 1 = .ok (.ifCond .lt 14, 3) := by decide +kernel
theorem dX3_isPage_4 : decode cX3_isPage 4 = .ok (.iload_n 0, 1) := by decide +kernel
theorem dX3_isPage_5 : decode cX3_isPage 5 = .ok (.sipush 128, 3) := by decide +kernel
theorem dX3_isPage_8 : decode cX3_isPage 8 = .ok (.if_icmp .ge 7, 3) := by decide +kernel
theorem dX3_isPage_11 : decode cX3_isPage 11 = .ok (.iconst 1, 1) := by decide +kernel
theorem dX3_isPage_12 : decode cX3_isPage 12 = .ok (.goto 4, 3) := by decide +kernel
theorem dX3_isPage_15 : decode cX3_isPage 15 = .ok (.iconst 0, 1) := by decide +kernel
theorem dX3_isPage_16 : decode cX3_isPage 16 = .ok (.ireturn, 1) := by decide +kernel
set_option maxRecDepth 20000 in
theorem ggX3_write_X2_carryOut : GoodIn wsX3_write wsX2_carryOut := goodIn_r _ [8, 9, 10, 11, 12, 13, 7, 14, 15, 16, 17, 18, 19, 20, 21, 22, 23, 24, 25, 26, 27, 28, 29, 30, 31, 32, 33, 34, 35, 36, 37, 38, 39, 40, 41, 42, 43, 44, 45, 46, 47, 48, 49, 50, 51, 52, 53, 54, 55, 56, 57, 58, 59, 60, 61, 62, 63, 64, 65, 66, 67, 68, 69, 70, 71, 72, 73, 74, 75, 76, 77, 78, 79, 80, 81, 82, 83, 84, 85, 86, 87, 88, 89, 90, 91, 92, 93, 94, 95, 96, 97, 98, 99, 100, 101, 102, 103, 104, 105, 106, 107, 108, 109, 110, 111, 112, 113, 114, 136, 137, 138, 139, 140, 141, 142, 143, 144, 145, 146, 147, 148, 149] (by decide +kernel) (by decide +kernel)
set_option maxRecDepth 20000 in
theorem gX3_write_X2_carryOut : GoodIn wsX3_write (wsV RX3 150 RX2 yX2_carryOut wsX2_carryOut) := goodIn_app (goodIn_of _ (by decide +kernel)) ggX3_write_X2_carryOut
set_option maxRecDepth 20000 in
theorem ggX3_write_X1_note : GoodIn wsX3_write wsX1_note := goodIn_r _ [119, 120, 121, 122, 123, 124, 125, 126, 127, 118, 128, 129, 130, 150, 151, 152, 153, 154, 155, 156, 157] (by decide +kernel) (by decide +kernel)
set_option maxRecDepth 20000 in
theorem gX3_write_X1_note : GoodIn wsX3_write (wsV RX3 153 RX1 yX1_note wsX1_note) := goodIn_app (goodIn_of _ (by decide +kernel)) ggX3_write_X1_note
theorem dX3_write_0 : decode cX3_write 0 = .ok (.aload_n 0, 1) := by decide +kernel
theorem dX3_write_1 : decode cX3_write 1 = .ok (.getfield 17, 3) := by decide +kernel
theorem dX3_write_4 : decode cX3_write 4 = .ok (.iload_n 1, 1) := by decide +kernel
theorem dX3_write_5 : decode cX3_write 5 = .ok (.iload_n 2, 1) := by decide +kernel
theorem dX3_write_6 : decode cX3_write 6 = .ok (.iload_n 3, 1) := by decide +kernel
theorem dX3_write_7 : decode cX3_write 7 = .ok (.invokevirtual 150, 3) := by decide +kernel
theorem dX3_write_10 : decode cX3_write 10 = .ok (.aload_n 0, 1) := by decide +kernel
theorem dX3_write_11 : decode cX3_write 11 = .ok (.getfield 27, 3) := by decide +kernel
theorem dX3_write_14 : decode cX3_write 14 = .ok (.iload_n 1, 1) := by decide +kernel
theorem dX3_write_15 : decode cX3_write 15 = .ok (.iload_n 2, 1) := by decide +kernel
theorem dX3_write_16 : decode cX3_write 16 = .ok (.iload_n 3, 1) := by decide +kernel
theorem dX3_write_17 : decode cX3_write 17 = .ok (.invokevirtual 153, 3) := by decide +kernel
theorem dX3_write_20 : decode cX3_write 20 = .ok (.aload_n 0, 1) := by decide +kernel
theorem dX3_write_21 : decode cX3_write 21 = .ok (.dup, 1) := by decide +kernel
theorem dX3_write_22 : decode cX3_write 22 = .ok (.getfield 144, 3) := by decide +kernel
theorem dX3_write_25 : decode cX3_write 25 = .ok (.iconst 1, 1) := by decide +kernel
theorem dX3_write_26 : decode cX3_write 26 = .ok (.iadd, 1) := by decide +kernel
theorem dX3_write_27 : decode cX3_write 27 = .ok (.putfield 144, 3) := by decide +kernel
theorem dX3_write_30 : decode cX3_write 30 = .ok (.return_, 1) := by decide +kernel
set_option maxRecDepth 20000 in
theorem ggX3_takeBack_X2_copyFrom : GoodIn wsX3_takeBack wsX2_copyFrom := goodIn_r _ [9, 10, 11, 12, 13, 14, 15, 16, 17, 18, 19, 20, 21, 22, 23, 151, 152, 153, 154, 155, 156, 157, 158, 159, 160, 161] (by decide +kernel) (by decide +kernel)
set_option maxRecDepth 20000 in
theorem gX3_takeBack_X2_copyFrom : GoodIn wsX3_takeBack (wsV RX3 156 RX2 yX2_copyFrom wsX2_copyFrom) := goodIn_app (goodIn_of _ (by decide +kernel)) ggX3_takeBack_X2_copyFrom
set_option maxRecDepth 20000 in
theorem ggX3_takeBack_X1_kindOf : GoodIn wsX3_takeBack wsX1_kindOf := goodIn_r _ [28, 29, 30, 31, 32, 33, 27, 34, 35, 162, 163, 164, 165, 166, 167, 168, 169] (by decide +kernel) (by decide +kernel)
set_option maxRecDepth 20000 in
theorem gX3_takeBack_X1_kindOf : GoodIn wsX3_takeBack (wsV RX3 160 RX1 yX1_kindOf wsX1_kindOf) := goodIn_app (goodIn_of _ (by decide +kernel)) ggX3_takeBack_X1_kindOf
set_option maxRecDepth 20000 in
theorem ggX3_takeBack_X1_keyOf : GoodIn wsX3_takeBack wsX1_keyOf := goodIn_r _ [39, 40, 30, 31, 32, 33, 27, 34, 35, 162, 163, 164, 165, 166, 167, 168, 169] (by decide +kernel) (by decide +kernel)
set_option maxRecDepth 20000 in
theorem gX3_takeBack_X1_keyOf : GoodIn wsX3_takeBack (wsV RX3 163 RX1 yX1_keyOf wsX1_keyOf) := goodIn_app (goodIn_of _ (by decide +kernel)) ggX3_takeBack_X1_keyOf
set_option maxRecDepth 20000 in
theorem ggX3_takeBack_X1_valueOf : GoodIn wsX3_takeBack wsX1_valueOf := goodIn_r _ [44, 45, 30, 31, 32, 33, 27, 34, 35, 162, 163, 164, 165, 166, 167, 168, 169] (by decide +kernel) (by decide +kernel)
set_option maxRecDepth 20000 in
theorem gX3_takeBack_X1_valueOf : GoodIn wsX3_takeBack (wsV RX3 166 RX1 yX1_valueOf wsX1_valueOf) := goodIn_app (goodIn_of _ (by decide +kernel)) ggX3_takeBack_X1_valueOf
set_option maxRecDepth 20000 in
theorem ggX3_takeBack_X2_carryOut : GoodIn wsX3_takeBack wsX2_carryOut := goodIn_r _ [49, 50, 23, 51, 52, 53, 8, 54, 16, 10, 17, 55, 56, 57, 58, 59, 21, 22, 60, 61, 62, 63, 64, 65, 66, 15, 67, 68, 69, 70, 20, 71, 72, 73, 74, 75, 76, 77, 78, 79, 80, 81, 18, 19, 82, 83, 84, 85, 86, 87, 88, 89, 90, 91, 92, 93, 94, 95, 96, 97, 98, 99, 100, 101, 102, 103, 104, 105, 106, 107, 108, 109, 110, 111, 112, 113, 114, 115, 116, 117, 118, 119, 120, 121, 122, 123, 124, 125, 126, 127, 128, 129, 130, 131, 132, 133, 134, 135, 136, 137, 138, 139, 140, 141, 142, 143, 144, 145, 151, 152, 153, 154, 155, 156, 157, 158, 159, 160, 161, 170, 171, 172] (by decide +kernel) (by decide +kernel)
set_option maxRecDepth 20000 in
theorem gX3_takeBack_X2_carryOut : GoodIn wsX3_takeBack (wsV RX3 150 RX2 yX2_carryOut wsX2_carryOut) := goodIn_app (goodIn_of _ (by decide +kernel)) ggX3_takeBack_X2_carryOut
theorem dX3_takeBack_0 : decode cX3_takeBack 0 = .ok (.iload_n 1, 1) := by decide +kernel
theorem dX3_takeBack_1 : decode cX3_takeBack 1 = .ok (.ifCond .ne 4, 3) := by decide +kernel
theorem dX3_takeBack_4 : decode cX3_takeBack 4 = .ok (.return_, 1) := by decide +kernel
theorem dX3_takeBack_5 : decode cX3_takeBack 5 = .ok (.aload_n 0, 1) := by decide +kernel
theorem dX3_takeBack_6 : decode cX3_takeBack 6 = .ok (.dup, 1) := by decide +kernel
theorem dX3_takeBack_7 : decode cX3_takeBack 7 = .ok (.getfield 144, 3) := by decide +kernel
theorem dX3_takeBack_10 : decode cX3_takeBack 10 = .ok (.iload_n 1, 1) := by decide +kernel
theorem dX3_takeBack_11 : decode cX3_takeBack 11 = .ok (.isub, 1) := by decide +kernel
theorem dX3_takeBack_12 : decode cX3_takeBack 12 = .ok (.putfield 144, 3) := by decide +kernel
theorem dX3_takeBack_15 : decode cX3_takeBack 15 = .ok (.aload_n 0, 1) := by decide +kernel
theorem dX3_takeBack_16 : decode cX3_takeBack 16 = .ok (.getfield 17, 3) := by decide +kernel
theorem dX3_takeBack_19 : decode cX3_takeBack 19 = .ok (.aload_n 0, 1) := by decide +kernel
theorem dX3_takeBack_20 : decode cX3_takeBack 20 = .ok (.getfield 21, 3) := by decide +kernel
theorem dX3_takeBack_23 : decode cX3_takeBack 23 = .ok (.invokevirtual 156, 3) := by decide +kernel
theorem dX3_takeBack_26 : decode cX3_takeBack 26 = .ok (.iconst 0, 1) := by decide +kernel
theorem dX3_takeBack_27 : decode cX3_takeBack 27 = .ok (.istore_n 3, 1) := by decide +kernel
theorem dX3_takeBack_28 : decode cX3_takeBack 28 = .ok (.iload_n 3, 1) := by decide +kernel
theorem dX3_takeBack_29 : decode cX3_takeBack 29 = .ok (.iload_n 2, 1) := by decide +kernel
theorem dX3_takeBack_30 : decode cX3_takeBack 30 = .ok (.if_icmp .ge 46, 3) := by decide +kernel
theorem dX3_takeBack_33 : decode cX3_takeBack 33 = .ok (.iload_n 3, 1) := by decide +kernel
theorem dX3_takeBack_34 : decode cX3_takeBack 34 = .ok (.bipush 64, 2) := by decide +kernel
theorem dX3_takeBack_36 : decode cX3_takeBack 36 = .ok (.if_icmp .ge 40, 3) := by decide +kernel
theorem dX3_takeBack_39 : decode cX3_takeBack 39 = .ok (.aload_n 0, 1) := by decide +kernel
theorem dX3_takeBack_40 : decode cX3_takeBack 40 = .ok (.getfield 17, 3) := by decide +kernel
theorem dX3_takeBack_43 : decode cX3_takeBack 43 = .ok (.aload_n 0, 1) := by decide +kernel
theorem dX3_takeBack_44 : decode cX3_takeBack 44 = .ok (.getfield 27, 3) := by decide +kernel
theorem dX3_takeBack_47 : decode cX3_takeBack 47 = .ok (.iload_n 3, 1) := by decide +kernel
theorem dX3_takeBack_48 : decode cX3_takeBack 48 = .ok (.invokevirtual 160, 3) := by decide +kernel
theorem dX3_takeBack_51 : decode cX3_takeBack 51 = .ok (.aload_n 0, 1) := by decide +kernel
theorem dX3_takeBack_52 : decode cX3_takeBack 52 = .ok (.getfield 27, 3) := by decide +kernel
theorem dX3_takeBack_55 : decode cX3_takeBack 55 = .ok (.iload_n 3, 1) := by decide +kernel
theorem dX3_takeBack_56 : decode cX3_takeBack 56 = .ok (.invokevirtual 163, 3) := by decide +kernel
theorem dX3_takeBack_59 : decode cX3_takeBack 59 = .ok (.aload_n 0, 1) := by decide +kernel
theorem dX3_takeBack_60 : decode cX3_takeBack 60 = .ok (.getfield 27, 3) := by decide +kernel
theorem dX3_takeBack_63 : decode cX3_takeBack 63 = .ok (.iload_n 3, 1) := by decide +kernel
theorem dX3_takeBack_64 : decode cX3_takeBack 64 = .ok (.invokevirtual 166, 3) := by decide +kernel
theorem dX3_takeBack_67 : decode cX3_takeBack 67 = .ok (.invokevirtual 150, 3) := by decide +kernel
theorem dX3_takeBack_70 : decode cX3_takeBack 70 = .ok (.iinc 3 1, 3) := by decide +kernel
theorem dX3_takeBack_73 : decode cX3_takeBack 73 = .ok (.goto (-45), 3) := by decide +kernel
theorem dX3_takeBack_76 : decode cX3_takeBack 76 = .ok (.return_, 1) := by decide +kernel
set_option maxRecDepth 20000 in
theorem ggX3_keepCurrent_X2_copyFrom : GoodIn wsX3_keepCurrent wsX2_copyFrom := goodIn_r _ [8, 9, 10, 11, 12, 13, 14, 15, 16, 17, 18, 19, 20, 21, 22, 36, 37, 38, 39, 40, 41, 42, 43, 44, 45, 46] (by decide +kernel) (by decide +kernel)
set_option maxRecDepth 20000 in
theorem gX3_keepCurrent_X2_copyFrom : GoodIn wsX3_keepCurrent (wsV RX3 156 RX2 yX2_copyFrom wsX2_copyFrom) := goodIn_app (goodIn_of _ (by decide +kernel)) ggX3_keepCurrent_X2_copyFrom
set_option maxRecDepth 20000 in
theorem ggX3_keepCurrent_X1_clear : GoodIn wsX3_keepCurrent wsX1_clear := goodIn_r _ [27, 28, 29, 30, 47, 48, 49, 50, 51, 52, 53, 54] (by decide +kernel) (by decide +kernel)
set_option maxRecDepth 20000 in
theorem gX3_keepCurrent_X1_clear : GoodIn wsX3_keepCurrent (wsV RX3 169 RX1 yX1_clear wsX1_clear) := goodIn_app (goodIn_of _ (by decide +kernel)) ggX3_keepCurrent_X1_clear
theorem dX3_keepCurrent_0 : decode cX3_keepCurrent 0 = .ok (.aload_n 0, 1) := by decide +kernel
theorem dX3_keepCurrent_1 : decode cX3_keepCurrent 1 = .ok (.getfield 21, 3) := by decide +kernel
theorem dX3_keepCurrent_4 : decode cX3_keepCurrent 4 = .ok (.aload_n 0, 1) := by decide +kernel
theorem dX3_keepCurrent_5 : decode cX3_keepCurrent 5 = .ok (.getfield 17, 3) := by decide +kernel
theorem dX3_keepCurrent_8 : decode cX3_keepCurrent 8 = .ok (.invokevirtual 156, 3) := by decide +kernel
theorem dX3_keepCurrent_11 : decode cX3_keepCurrent 11 = .ok (.aload_n 0, 1) := by decide +kernel
theorem dX3_keepCurrent_12 : decode cX3_keepCurrent 12 = .ok (.getfield 27, 3) := by decide +kernel
theorem dX3_keepCurrent_15 : decode cX3_keepCurrent 15 = .ok (.invokevirtual 169, 3) := by decide +kernel
theorem dX3_keepCurrent_18 : decode cX3_keepCurrent 18 = .ok (.return_, 1) := by decide +kernel
set_option maxRecDepth 20000 in
theorem ggX4_init_X4_clear : GoodIn wsX4_init wsX4_clear := goodIn_r _ [20, 7, 8, 21, 10, 22, 23, 24, 25, 26, 27, 28, 29, 30, 31, 32, 33, 34, 35, 36, 37, 38, 39, 40, 41, 42, 43, 44] (by decide +kernel) (by decide +kernel)
set_option maxRecDepth 20000 in
theorem gX4_init_X4_clear : GoodIn wsX4_init (wsV RX4 41 RX4 yX4_clear wsX4_clear) := goodIn_app (goodIn_of _ (by decide +kernel)) ggX4_init_X4_clear
theorem dX4_init_0 : decode cX4_init 0 = .ok (.aload_n 0, 1) := by decide +kernel
theorem dX4_init_1 : decode cX4_init 1 = .ok (.invokespecial 1, 3) := by decide +kernel
theorem dX4_init_4 : decode cX4_init 4 = .ok (.aload_n 0, 1) := by decide +kernel
theorem dX4_init_5 : decode cX4_init 5 = .ok (.sipush 512, 3) := by decide +kernel
theorem dX4_init_8 : decode cX4_init 8 = .ok (.newarray .int, 2) := by decide +kernel
theorem dX4_init_10 : decode cX4_init 10 = .ok (.putfield 7, 3) := by decide +kernel
theorem dX4_init_13 : decode cX4_init 13 = .ok (.aload_n 0, 1) := by decide +kernel
theorem dX4_init_14 : decode cX4_init 14 = .ok (.sipush 512, 3) := by decide +kernel
theorem dX4_init_17 : decode cX4_init 17 = .ok (.newarray .int, 2) := by decide +kernel
theorem dX4_init_19 : decode cX4_init 19 = .ok (.putfield 13, 3) := by decide +kernel
theorem dX4_init_22 : decode cX4_init 22 = .ok (.aload_n 0, 1) := by decide +kernel
theorem dX4_init_23 : decode cX4_init 23 = .ok (.sipush 128, 3) := by decide +kernel
theorem dX4_init_26 : decode cX4_init 26 = .ok (.newarray .int, 2) := by decide +kernel
theorem dX4_init_28 : decode cX4_init 28 = .ok (.putfield 16, 3) := by decide +kernel
theorem dX4_init_31 : decode cX4_init 31 = .ok (.aload_n 0, 1) := by decide +kernel
theorem dX4_init_32 : decode cX4_init 32 = .ok (.sipush 128, 3) := by decide +kernel
theorem dX4_init_35 : decode cX4_init 35 = .ok (.newarray .int, 2) := by decide +kernel
theorem dX4_init_37 : decode cX4_init 37 = .ok (.putfield 19, 3) := by decide +kernel
theorem dX4_init_40 : decode cX4_init 40 = .ok (.aload_n 0, 1) := by decide +kernel
theorem dX4_init_41 : decode cX4_init 41 = .ok (.sipush 128, 3) := by decide +kernel
theorem dX4_init_44 : decode cX4_init 44 = .ok (.newarray .boolean, 2) := by decide +kernel
theorem dX4_init_46 : decode cX4_init 46 = .ok (.putfield 22, 3) := by decide +kernel
theorem dX4_init_49 : decode cX4_init 49 = .ok (.aload_n 0, 1) := by decide +kernel
theorem dX4_init_50 : decode cX4_init 50 = .ok (.sipush 4200, 3) := by decide +kernel
theorem dX4_init_53 : decode cX4_init 53 = .ok (.newarray .int, 2) := by decide +kernel
theorem dX4_init_55 : decode cX4_init 55 = .ok (.putfield 26, 3) := by decide +kernel
theorem dX4_init_58 : decode cX4_init 58 = .ok (.aload_n 0, 1) := by decide +kernel
theorem dX4_init_59 : decode cX4_init 59 = .ok (.sipush 4200, 3) := by decide +kernel
theorem dX4_init_62 : decode cX4_init 62 = .ok (.newarray .int, 2) := by decide +kernel
theorem dX4_init_64 : decode cX4_init 64 = .ok (.putfield 29, 3) := by decide +kernel
theorem dX4_init_67 : decode cX4_init 67 = .ok (.aload_n 0, 1) := by decide +kernel
theorem dX4_init_68 : decode cX4_init 68 = .ok (.bipush 64, 2) := by decide +kernel
theorem dX4_init_70 : decode cX4_init 70 = .ok (.newarray .int, 2) := by decide +kernel
theorem dX4_init_72 : decode cX4_init 72 = .ok (.putfield 32, 3) := by decide +kernel
theorem dX4_init_75 : decode cX4_init 75 = .ok (.aload_n 0, 1) := by decide +kernel
theorem dX4_init_76 : decode cX4_init 76 = .ok (.sipush 512, 3) := by decide +kernel
theorem dX4_init_79 : decode cX4_init 79 = .ok (.newarray .int, 2) := by decide +kernel
theorem dX4_init_81 : decode cX4_init 81 = .ok (.putfield 35, 3) := by decide +kernel
theorem dX4_init_84 : decode cX4_init 84 = .ok (.aload_n 0, 1) := by decide +kernel
theorem dX4_init_85 : decode cX4_init 85 = .ok (.sipush 512, 3) := by decide +kernel
theorem dX4_init_88 : decode cX4_init 88 = .ok (.newarray .int, 2) := by decide +kernel
theorem dX4_init_90 : decode cX4_init 90 = .ok (.putfield 38, 3) := by decide +kernel
theorem dX4_init_93 : decode cX4_init 93 = .ok (.aload_n 0, 1) := by decide +kernel
theorem dX4_init_94 : decode cX4_init 94 = .ok (.invokevirtual 41, 3) := by decide +kernel
theorem dX4_init_97 : decode cX4_init 97 = .ok (.return_, 1) := by decide +kernel
theorem dX4_clear_0 : decode cX4_clear 0 = .ok (.iconst 0, 1) := by decide +kernel
theorem dX4_clear_1 : decode cX4_clear 1 = .ok (.istore_n 1, 1) := by decide +kernel
theorem dX4_clear_2 : decode cX4_clear 2 = .ok (.iload_n 1, 1) := by decide +kernel
theorem dX4_clear_3 : decode cX4_clear 3 = .ok (.sipush 128, 3) := by decide +kernel
theorem dX4_clear_6 : decode cX4_clear 6 = .ok (.if_icmp .ge 41, 3) := by decide +kernel
theorem dX4_clear_9 : decode cX4_clear 9 = .ok (.aload_n 0, 1) := by decide +kernel
theorem dX4_clear_10 : decode cX4_clear 10 = .ok (.getfield 16, 3) := by decide +kernel
theorem dX4_clear_13 : decode cX4_clear 13 = .ok (.iload_n 1, 1) := by decide +kernel
theorem dX4_clear_14 : decode cX4_clear 14 = .ok (.iconst 0, 1) := by decide +kernel
theorem dX4_clear_15 : decode cX4_clear 15 = .ok (.iastore, 1) := by decide +kernel
theorem dX4_clear_16 : decode cX4_clear 16 = .ok (.aload_n 0, 1) := by decide +kernel
theorem dX4_clear_17 : decode cX4_clear 17 = .ok (.getfield 19, 3) := by decide +kernel
theorem dX4_clear_20 : decode cX4_clear 20 = .ok (.iload_n 1, 1) := by decide +kernel
theorem dX4_clear_21 : decode cX4_clear 21 = .ok (.ldc 44, 2) := by decide +kernel
theorem dX4_clear_23 : decode cX4_clear 23 = .ok (.iastore, 1) := by decide +kernel
theorem dX4_clear_24 : decode cX4_clear 24 = .ok (.aload_n 0, 1) := by decide +kernel
theorem dX4_clear_25 : decode cX4_clear 25 = .ok (.getfield 22, 3) := by decide +kernel
theorem dX4_clear_28 : decode cX4_clear 28 = .ok (.iload_n 1, 1) := by decide +kernel
theorem dX4_clear_29 : decode cX4_clear 29 = .ok (.iload_n 1, 1) := by decide +kernel
theorem dX4_clear_30 : decode cX4_clear 30 = .ok (.bipush 64, 2) := by decide +kernel
theorem dX4_clear_32 : decode cX4_clear 32 = .ok (.if_icmp .lt 7, 3) := by decide +kernel
theorem dX4_clear_35 : decode cX4_clear 35 = .ok (.iconst 1, 1) := by decide +kernel
theorem dX4_clear_36 : decode cX4_clear 36 = .ok (.goto 4, 3) := by decide +kernel
theorem dX4_clear_39 : decode cX4_clear 39 = .ok (.iconst 0, 1) := by decide +kernel
theorem dX4_clear_40 : decode cX4_clear 40 = .ok (.bastore, 1) := by decide +kernel
theorem dX4_clear_41 : decode cX4_clear 41 = .ok (.iinc 1 1, 3) := by decide +kernel
theorem dX4_clear_44 : decode cX4_clear 44 = .ok (.goto (-42), 3) := by decide +kernel
theorem dX4_clear_47 : decode cX4_clear 47 = .ok (.aload_n 0, 1) := by decide +kernel
theorem dX4_clear_48 : decode cX4_clear 48 = .ok (.iconst 0, 1) := by decide +kernel
theorem dX4_clear_49 : decode cX4_clear 49 = .ok (.putfield 45, 3) := by decide +kernel
theorem dX4_clear_52 : decode cX4_clear 52 = .ok (.aload_n 0, 1) := by decide +kernel
theorem dX4_clear_53 : decode cX4_clear 53 = .ok (.iconst 0, 1) := by decide +kernel
theorem dX4_clear_54 : decode cX4_clear 54 = .ok (.putfield 49, 3) := by decide +kernel
theorem dX4_clear_57 : decode cX4_clear 57 = .ok (.aload_n 0, 1) := by decide +kernel
theorem dX4_clear_58 : decode cX4_clear 58 = .ok (.iconst 0, 1) := by decide +kernel
theorem dX4_clear_59 : decode cX4_clear 59 = .ok (.putfield 52, 3) := by decide +kernel
theorem dX4_clear_62 : decode cX4_clear 62 = .ok (.return_, 1) := by decide +kernel
theorem dX4_base_0 : decode cX4_base 0 = .ok (.iconst 4, 1) := by decide +kernel
theorem dX4_base_1 : decode cX4_base 1 = .ok (.aload_n 0, 1) := by decide +kernel
theorem dX4_base_2 : decode cX4_base 2 = .ok (.getfield 45, 3) := by decide +kernel
theorem dX4_base_5 : decode cX4_base 5 = .ok (.ishl, 1) := by decide +kernel
theorem dX4_base_6 : decode cX4_base 6 = .ok (.ireturn, 1) := by decide +kernel
set_option maxRecDepth 20000 in
theorem ggX4_buckets_X4_base : GoodIn wsX4_buckets wsX4_base := goodIn_r _ [6, 7, 8, 9, 10, 11, 12, 13, 14, 15, 16, 17, 18, 19, 20, 21, 22, 23, 24, 25, 26, 27] (by decide +kernel) (by decide +kernel)
set_option maxRecDepth 20000 in
theorem gX4_buckets_X4_base : GoodIn wsX4_buckets (wsV RX4 55 RX4 yX4_base wsX4_base) := goodIn_app (goodIn_of _ (by decide +kernel)) ggX4_buckets_X4_base
theorem dX4_buckets_0 : decode cX4_buckets 0 = .ok (.aload_n 0, 1) := by decide +kernel
theorem dX4_buckets_1 : decode cX4_buckets 1 = .ok (.invokevirtual 55, 3) := by decide +kernel
theorem dX4_buckets_4 : decode cX4_buckets 4 = .ok (.aload_n 0, 1) := by decide +kernel
theorem dX4_buckets_5 : decode cX4_buckets 5 = .ok (.getfield 49, 3) := by decide +kernel
theorem dX4_buckets_8 : decode cX4_buckets 8 = .ok (.iadd, 1) := by decide +kernel
theorem dX4_buckets_9 : decode cX4_buckets 9 = .ok (.ireturn, 1) := by decide +kernel
set_option maxRecDepth 20000 in
theorem ggX4_addressOf_X4_base : GoodIn wsX4_addressOf wsX4_base := goodIn_r _ [7, 8, 9, 10, 11, 12, 13, 14, 15, 16, 17, 18, 19, 20, 21, 22, 23, 24, 25, 26, 27, 28] (by decide +kernel) (by decide +kernel)
set_option maxRecDepth 20000 in
theorem gX4_addressOf_X4_base : GoodIn wsX4_addressOf (wsV RX4 55 RX4 yX4_base wsX4_base) := goodIn_app (goodIn_of _ (by decide +kernel)) ggX4_addressOf_X4_base
theorem dX4_addressOf_0 : decode cX4_addressOf 0 = .ok (.iload_n 1, 1) := by decide +kernel
theorem dX4_addressOf_1 : decode cX4_addressOf 1 = .ok (.ldc 59, 2) := by decide +kernel
theorem dX4_addressOf_3 : decode cX4_addressOf 3 = .ok (.imul, 1) := by decide +kernel
theorem dX4_addressOf_4 : decode cX4_addressOf 4 = .ok (.istore_n 2, 1) := by decide +kernel
theorem dX4_addressOf_5 : decode cX4_addressOf 5 = .ok (.iload_n 2, 1) := by decide +kernel
theorem dX4_addressOf_6 : decode cX4_addressOf 6 = .ok (.iload_n 2, 1) := by decide +kernel
theorem dX4_addressOf_7 : decode cX4_addressOf 7 = .ok (.bipush 15, 2) := by decide +kernel
theorem dX4_addressOf_9 : decode cX4_addressOf 9 = .ok (.iushr, 1) := by decide +kernel
theorem dX4_addressOf_10 : decode cX4_addressOf 10 = .ok (.ixor, 1) := by decide +kernel
theorem dX4_addressOf_11 : decode cX4_addressOf 11 = .ok (.istore_n 2, 1) := by decide +kernel
theorem dX4_addressOf_12 : decode cX4_addressOf 12 = .ok (.iload_n 2, 1) := by decide +kernel
theorem dX4_addressOf_13 : decode cX4_addressOf 13 = .ok (.aload_n 0, 1) := by decide +kernel
theorem dX4_addressOf_14 : decode cX4_addressOf 14 = .ok (.invokevirtual 55, 3) := by decide +kernel
theorem dX4_addressOf_17 : decode cX4_addressOf 17 = .ok (.iconst 1, 1) := by decide +kernel
theorem dX4_addressOf_18 : decode cX4_addressOf 18 = .ok (.isub, 1) := by decide +kernel
theorem dX4_addressOf_19 : decode cX4_addressOf 19 = .ok (.iand, 1) := by decide +kernel
theorem dX4_addressOf_20 : decode cX4_addressOf 20 = .ok (.istore_n 3, 1) := by decide +kernel
theorem dX4_addressOf_21 : decode cX4_addressOf 21 = .ok (.iload_n 3, 1) := by decide +kernel
theorem dX4_addressOf_22 : decode cX4_addressOf 22 = .ok (.aload_n 0, 1) := by decide +kernel
theorem dX4_addressOf_23 : decode cX4_addressOf 23 = .ok (.getfield 49, 3) := by decide +kernel
theorem dX4_addressOf_26 : decode cX4_addressOf 26 = .ok (.if_icmp .ge 16, 3) := by decide +kernel
theorem dX4_addressOf_29 : decode cX4_addressOf 29 = .ok (.iload_n 2, 1) := by decide +kernel
theorem dX4_addressOf_30 : decode cX4_addressOf 30 = .ok (.iconst 2, 1) := by decide +kernel
theorem dX4_addressOf_31 : decode cX4_addressOf 31 = .ok (.aload_n 0, 1) := by decide +kernel
theorem dX4_addressOf_32 : decode cX4_addressOf 32 = .ok (.invokevirtual 55, 3) := by decide +kernel
theorem dX4_addressOf_35 : decode cX4_addressOf 35 = .ok (.imul, 1) := by decide +kernel
theorem dX4_addressOf_36 : decode cX4_addressOf 36 = .ok (.iconst 1, 1) := by decide +kernel
theorem dX4_addressOf_37 : decode cX4_addressOf 37 = .ok (.isub, 1) := by decide +kernel
theorem dX4_addressOf_38 : decode cX4_addressOf 38 = .ok (.iand, 1) := by decide +kernel
theorem dX4_addressOf_39 : decode cX4_addressOf 39 = .ok (.goto 4, 3) := by decide +kernel
theorem dX4_addressOf_42 : decode cX4_addressOf 42 = .ok (.iload_n 3, 1) := by decide +kernel
theorem dX4_addressOf_43 : decode cX4_addressOf 43 = .ok (.ireturn, 1) := by decide +kernel
theorem dX4_lastOf_0 : decode cX4_lastOf 0 = .ok (.iload_n 1, 1) := by decide +kernel
theorem dX4_lastOf_1 : decode cX4_lastOf 1 = .ok (.istore_n 2, 1) := by decide +kernel
theorem dX4_lastOf_2 : decode cX4_lastOf 2 = .ok (.aload_n 0, 1) := by decide +kernel
theorem dX4_lastOf_3 : decode cX4_lastOf 3 = .ok (.getfield 19, 3) := by decide +kernel
theorem dX4_lastOf_6 : decode cX4_lastOf 6 = .ok (.iload_n 2, 1) := by decide +kernel
theorem dX4_lastOf_7 : decode cX4_lastOf 7 = .ok (.iaload, 1) := by decide +kernel
theorem dX4_lastOf_8 : decode cX4_lastOf 8 = .ok (.ldc 44, 2) := by decide +kernel
theorem dX4_lastOf_10 : decode cX4_lastOf 10 = .ok (.if_icmp .eq 13, 3) := by decide +kernel
theorem dX4_lastOf_13 : decode cX4_lastOf 13 = .ok (.aload_n 0, 1) := by decide +kernel
theorem dX4_lastOf_14 : decode cX4_lastOf 14 = .ok (.getfield 19, 3) := by decide +kernel
theorem dX4_lastOf_17 : decode cX4_lastOf 17 = .ok (.iload_n 2, 1) := by decide +kernel
theorem dX4_lastOf_18 : decode cX4_lastOf 18 = .ok (.iaload, 1) := by decide +kernel
theorem dX4_lastOf_19 : decode cX4_lastOf 19 = .ok (.istore_n 2, 1) := by decide +kernel
theorem dX4_lastOf_20 : decode cX4_lastOf 20 = .ok (.goto (-18), 3) := by decide +kernel
theorem dX4_lastOf_23 : decode cX4_lastOf 23 = .ok (.iload_n 2, 1) := by decide +kernel
theorem dX4_lastOf_24 : decode cX4_lastOf 24 = .ok (.ireturn, 1) := by decide +kernel
theorem dX4_freeOnes_0 : decode cX4_freeOnes 0 = .ok (.iconst 0, 1) := by decide +kernel
theorem dX4_freeOnes_1 : decode cX4_freeOnes 1 = .ok (.istore_n 1, 1) := by decide +kernel
theorem dX4_freeOnes_2 : decode cX4_freeOnes 2 = .ok (.bipush 64, 2) := by decide +kernel
theorem dX4_freeOnes_4 : decode cX4_freeOnes 4 = .ok (.istore_n 2, 1) := by decide +kernel
theorem dX4_freeOnes_5 : decode cX4_freeOnes 5 = .ok (.iload_n 2, 1) := by decide +kernel
theorem dX4_freeOnes_6 : decode cX4_freeOnes 6 = .ok (.sipush 128, 3) := by decide +kernel
theorem dX4_freeOnes_9 : decode cX4_freeOnes 9 = .ok (.if_icmp .ge 26, 3) := by decide +kernel
theorem dX4_freeOnes_12 : decode cX4_freeOnes 12 = .ok (.iload_n 1, 1) := by decide +kernel
theorem dX4_freeOnes_13 : decode cX4_freeOnes 13 = .ok (.aload_n 0, 1) := by decide +kernel
theorem dX4_freeOnes_14 : decode cX4_freeOnes 14 = .ok (.getfield 22, 3) := by decide +kernel
theorem dX4_freeOnes_17 : decode cX4_freeOnes 17 = .ok (.iload_n 2, 1) := by decide +kernel
theorem dX4_freeOnes_18 : decode cX4_freeOnes 18 = .ok (.baload, 1) := by decide +kernel
theorem dX4_freeOnes_19 : decode cX4_freeOnes 19 = .ok (.ifCond .eq 7, 3) := by decide +kernel
theorem dX4_freeOnes_22 : decode cX4_freeOnes 22 = .ok (.iconst 1, 1) := by decide +kernel
theorem dX4_freeOnes_23 : decode cX4_freeOnes 23 = .ok (.goto 4, 3) := by decide +kernel
theorem dX4_freeOnes_26 : decode cX4_freeOnes 26 = .ok (.iconst 0, 1) := by decide +kernel
theorem dX4_freeOnes_27 : decode cX4_freeOnes 27 = .ok (.iadd, 1) := by decide +kernel
theorem dX4_freeOnes_28 : decode cX4_freeOnes 28 = .ok (.istore_n 1, 1) := by decide +kernel
theorem dX4_freeOnes_29 : decode cX4_freeOnes 29 = .ok (.iinc 2 1, 3) := by decide +kernel
theorem dX4_freeOnes_32 : decode cX4_freeOnes 32 = .ok (.goto (-27), 3) := by decide +kernel
theorem dX4_freeOnes_35 : decode cX4_freeOnes 35 = .ok (.iload_n 1, 1) := by decide +kernel
theorem dX4_freeOnes_36 : decode cX4_freeOnes 36 = .ok (.ireturn, 1) := by decide +kernel
set_option maxRecDepth 20000 in
theorem ggX4_add_X4_lastOf : GoodIn wsX4_add wsX4_lastOf := goodIn_r _ [10, 3, 11, 12, 13, 14, 15, 16, 17, 18, 19, 20, 21, 22, 23, 24, 25, 26, 27, 28, 29, 30, 31] (by decide +kernel) (by decide +kernel)
set_option maxRecDepth 20000 in
theorem gX4_add_X4_lastOf : GoodIn wsX4_add (wsV RX4 60 RX4 yX4_lastOf wsX4_lastOf) := goodIn_app (goodIn_of _ (by decide +kernel)) ggX4_add_X4_lastOf
theorem dX4_add_0 : decode cX4_add 0 = .ok (.aload_n 0, 1) := by decide +kernel
theorem dX4_add_1 : decode cX4_add 1 = .ok (.iload_n 1, 1) := by decide +kernel
theorem dX4_add_2 : decode cX4_add 2 = .ok (.invokevirtual 60, 3) := by decide +kernel
theorem dX4_add_5 : decode cX4_add 5 = .ok (.istore 4, 2) := by decide +kernel
theorem dX4_add_7 : decode cX4_add 7 = .ok (.aload_n 0, 1) := by decide +kernel
theorem dX4_add_8 : decode cX4_add 8 = .ok (.getfield 16, 3) := by decide +kernel
theorem dX4_add_11 : decode cX4_add 11 = .ok (.iload 4, 2) := by decide +kernel
theorem dX4_add_13 : decode cX4_add 13 = .ok (.iaload, 1) := by decide +kernel
theorem dX4_add_14 : decode cX4_add 14 = .ok (.iconst 4, 1) := by decide +kernel
theorem dX4_add_15 : decode cX4_add 15 = .ok (.if_icmp .ne 44, 3) := by decide +kernel
theorem dX4_add_18 : decode cX4_add 18 = .ok (.bipush 64, 2) := by decide +kernel
theorem dX4_add_20 : decode cX4_add 20 = .ok (.istore 5, 2) := by decide +kernel
theorem dX4_add_22 : decode cX4_add 22 = .ok (.aload_n 0, 1) := by decide +kernel
theorem dX4_add_23 : decode cX4_add 23 = .ok (.getfield 22, 3) := by decide +kernel
theorem dX4_add_26 : decode cX4_add 26 = .ok (.iload 5, 2) := by decide +kernel
theorem dX4_add_28 : decode cX4_add 28 = .ok (.baload, 1) := by decide +kernel
theorem dX4_add_29 : decode cX4_add 29 = .ok (.ifCond .ne 9, 3) := by decide +kernel
theorem dX4_add_32 : decode cX4_add 32 = .ok (.iinc 5 1, 3) := by decide +kernel
theorem dX4_add_35 : decode cX4_add 35 = .ok (.goto (-13), 3) := by decide +kernel
theorem dX4_add_38 : decode cX4_add 38 = .ok (.aload_n 0, 1) := by decide +kernel
theorem dX4_add_39 : decode cX4_add 39 = .ok (.getfield 22, 3) := by decide +kernel
theorem dX4_add_42 : decode cX4_add 42 = .ok (.iload 5, 2) := by decide +kernel
theorem dX4_add_44 : decode cX4_add 44 = .ok (.iconst 0, 1) := by decide +kernel
theorem dX4_add_45 : decode cX4_add 45 = .ok (.bastore, 1) := by decide +kernel
theorem dX4_add_46 : decode cX4_add 46 = .ok (.aload_n 0, 1) := by decide +kernel
theorem dX4_add_47 : decode cX4_add 47 = .ok (.getfield 19, 3) := by decide +kernel
theorem dX4_add_50 : decode cX4_add 50 = .ok (.iload 4, 2) := by decide +kernel
theorem dX4_add_52 : decode cX4_add 52 = .ok (.iload 5, 2) := by decide +kernel
theorem dX4_add_54 : decode cX4_add 54 = .ok (.iastore, 1) := by decide +kernel
theorem dX4_add_55 : decode cX4_add 55 = .ok (.iload 5, 2) := by decide +kernel
theorem dX4_add_57 : decode cX4_add 57 = .ok (.istore 4, 2) := by decide +kernel
theorem dX4_add_59 : decode cX4_add 59 = .ok (.aload_n 0, 1) := by decide +kernel
theorem dX4_add_60 : decode cX4_add 60 = .ok (.getfield 7, 3) := by decide +kernel
theorem dX4_add_63 : decode cX4_add 63 = .ok (.iconst 4, 1) := by decide +kernel
theorem dX4_add_64 : decode cX4_add 64 = .ok (.iload 4, 2) := by decide +kernel
theorem dX4_add_66 : decode cX4_add 66 = .ok (.imul, 1) := by decide +kernel
theorem dX4_add_67 : decode cX4_add 67 = .ok (.aload_n 0, 1) := by decide +kernel
theorem dX4_add_68 : decode cX4_add 68 = .ok (.getfield 16, 3) := by decide +kernel
theorem dX4_add_71 : decode cX4_add 71 = .ok (.iload 4, 2) := by decide +kernel
theorem dX4_add_73 : decode cX4_add 73 = .ok (.iaload, 1) := by decide +kernel
theorem dX4_add_74 : decode cX4_add 74 = .ok (.iadd, 1) := by decide +kernel
theorem dX4_add_75 : decode cX4_add 75 = .ok (.iload_n 2, 1) := by decide +kernel
theorem dX4_add_76 : decode cX4_add 76 = .ok (.iastore, 1) := by decide +kernel
theorem dX4_add_77 : decode cX4_add 77 = .ok (.aload_n 0, 1) := by decide +kernel
theorem dX4_add_78 : decode cX4_add 78 = .ok (.getfield 13, 3) := by decide +kernel
theorem dX4_add_81 : decode cX4_add 81 = .ok (.iconst 4, 1) := by decide +kernel
theorem dX4_add_82 : decode cX4_add 82 = .ok (.iload 4, 2) := by decide +kernel
theorem dX4_add_84 : decode cX4_add 84 = .ok (.imul, 1) := by decide +kernel
theorem dX4_add_85 : decode cX4_add 85 = .ok (.aload_n 0, 1) := by decide +kernel
theorem dX4_add_86 : decode cX4_add 86 = .ok (.getfield 16, 3) := by decide +kernel
theorem dX4_add_89 : decode cX4_add 89 = .ok (.iload 4, 2) := by decide +kernel
theorem dX4_add_91 : decode cX4_add 91 = .ok (.iaload, 1) := by decide +kernel
theorem dX4_add_92 : decode cX4_add 92 = .ok (.iadd, 1) := by decide +kernel
theorem dX4_add_93 : decode cX4_add 93 = .ok (.iload_n 3, 1) := by decide +kernel
theorem dX4_add_94 : decode cX4_add 94 = .ok (.iastore, 1) := by decide +kernel
theorem dX4_add_95 : decode cX4_add 95 = .ok (.aload_n 0, 1) := by decide +kernel
theorem dX4_add_96 : decode cX4_add 96 = .ok (.getfield 16, 3) := by decide +kernel
theorem dX4_add_99 : decode cX4_add 99 = .ok (.iload 4, 2) := by decide +kernel
theorem dX4_add_101 : decode cX4_add 101 = .ok (.dup2, 1) := by decide +kernel
theorem dX4_add_102 : decode cX4_add 102 = .ok (.iaload, 1) := by decide +kernel
theorem dX4_add_103 : decode cX4_add 103 = .ok (.iconst 1, 1) := by decide +kernel
theorem dX4_add_104 : decode cX4_add 104 = .ok (.iadd, 1) := by decide +kernel
theorem dX4_add_105 : decode cX4_add 105 = .ok (.iastore, 1) := by decide +kernel
theorem dX4_add_106 : decode cX4_add 106 = .ok (.return_, 1) := by decide +kernel
set_option maxRecDepth 20000 in
theorem ggX4_placeOf_X4_addressOf : GoodIn wsX4_placeOf wsX4_addressOf := goodIn_r _ [9, 10, 11, 12, 13, 14, 8, 15, 16, 17, 18, 19, 20, 21, 22, 23, 24, 25, 26, 27, 28, 29, 30, 31, 32, 33, 34, 35, 36] (by decide +kernel) (by decide +kernel)
set_option maxRecDepth 20000 in
theorem gX4_placeOf_X4_addressOf : GoodIn wsX4_placeOf (wsV RX4 64 RX4 yX4_addressOf wsX4_addressOf) := goodIn_app (goodIn_of _ (by decide +kernel)) ggX4_placeOf_X4_addressOf
theorem dX4_placeOf_0 : decode cX4_placeOf 0 = .ok (.aload_n 0, 1) := by decide +kernel
theorem dX4_placeOf_1 : decode cX4_placeOf 1 = .ok (.iload_n 1, 1) := by decide +kernel
theorem dX4_placeOf_2 : decode cX4_placeOf 2 = .ok (.invokevirtual 64, 3) := by decide +kernel
theorem dX4_placeOf_5 : decode cX4_placeOf 5 = .ok (.istore_n 2, 1) := by decide +kernel
theorem dX4_placeOf_6 : decode cX4_placeOf 6 = .ok (.iload_n 2, 1) := by decide +kernel
theorem dX4_placeOf_7 : decode cX4_placeOf 7 = .ok (.ldc 44, 2) := by decide +kernel
theorem dX4_placeOf_9 : decode cX4_placeOf 9 = .ok (.if_icmp .eq 51, 3) := by decide +kernel
theorem dX4_placeOf_12 : decode cX4_placeOf 12 = .ok (.iconst 0, 1) := by decide +kernel
theorem dX4_placeOf_13 : decode cX4_placeOf 13 = .ok (.istore_n 3, 1) := by decide +kernel
theorem dX4_placeOf_14 : decode cX4_placeOf 14 = .ok (.iload_n 3, 1) := by decide +kernel
theorem dX4_placeOf_15 : decode cX4_placeOf 15 = .ok (.aload_n 0, 1) := by decide +kernel
theorem dX4_placeOf_16 : decode cX4_placeOf 16 = .ok (.getfield 16, 3) := by decide +kernel
theorem dX4_placeOf_19 : decode cX4_placeOf 19 = .ok (.iload_n 2, 1) := by decide +kernel
theorem dX4_placeOf_20 : decode cX4_placeOf 20 = .ok (.iaload, 1) := by decide +kernel
theorem dX4_placeOf_21 : decode cX4_placeOf 21 = .ok (.if_icmp .ge 29, 3) := by decide +kernel
theorem dX4_placeOf_24 : decode cX4_placeOf 24 = .ok (.aload_n 0, 1) := by decide +kernel
theorem dX4_placeOf_25 : decode cX4_placeOf 25 = .ok (.getfield 7, 3) := by decide +kernel
theorem dX4_placeOf_28 : decode cX4_placeOf 28 = .ok (.iconst 4, 1) := by decide +kernel
theorem dX4_placeOf_29 : decode cX4_placeOf 29 = .ok (.iload_n 2, 1) := by decide +kernel
theorem dX4_placeOf_30 : decode cX4_placeOf 30 = .ok (.imul, 1) := by decide +kernel
theorem dX4_placeOf_31 : decode cX4_placeOf 31 = .ok (.iload_n 3, 1) := by decide +kernel
theorem dX4_placeOf_32 : decode cX4_placeOf 32 = .ok (.iadd, 1) := by decide +kernel
theorem dX4_placeOf_33 : decode cX4_placeOf 33 = .ok (.iaload, 1) := by decide +kernel
theorem dX4_placeOf_34 : decode cX4_placeOf 34 = .ok (.iload_n 1, 1) := by decide +kernel
theorem dX4_placeOf_35 : decode cX4_placeOf 35 = .ok (.if_icmp .ne 9, 3) := by decide +kernel
theorem dX4_placeOf_38 : decode cX4_placeOf 38 = .ok (.iconst 4, 1) := by decide +kernel
theorem dX4_placeOf_39 : decode cX4_placeOf 39 = .ok (.iload_n 2, 1) := by decide +kernel
theorem dX4_placeOf_40 : decode cX4_placeOf 40 = .ok (.imul, 1) := by decide +kernel
theorem dX4_placeOf_41 : decode cX4_placeOf 41 = .ok (.iload_n 3, 1) := by decide +kernel
theorem dX4_placeOf_42 : decode cX4_placeOf 42 = .ok (.iadd, 1) := by decide +kernel
theorem dX4_placeOf_43 : decode cX4_placeOf 43 = .ok (.ireturn, 1) := by decide +kernel
theorem dX4_placeOf_44 : decode cX4_placeOf 44 = .ok (.iinc 3 1, 3) := by decide +kernel
theorem dX4_placeOf_47 : decode cX4_placeOf 47 = .ok (.goto (-33), 3) := by decide +kernel
theorem dX4_placeOf_50 : decode cX4_placeOf 50 = .ok (.aload_n 0, 1) := by decide +kernel
theorem dX4_placeOf_51 : decode cX4_placeOf 51 = .ok (.getfield 19, 3) := by decide +kernel
theorem dX4_placeOf_54 : decode cX4_placeOf 54 = .ok (.iload_n 2, 1) := by decide +kernel
theorem dX4_placeOf_55 : decode cX4_placeOf 55 = .ok (.iaload, 1) := by decide +kernel
theorem dX4_placeOf_56 : decode cX4_placeOf 56 = .ok (.istore_n 2, 1) := by decide +kernel
theorem dX4_placeOf_57 : decode cX4_placeOf 57 = .ok (.goto (-51), 3) := by decide +kernel
theorem dX4_placeOf_60 : decode cX4_placeOf 60 = .ok (.ldc 44, 2) := by decide +kernel
theorem dX4_placeOf_62 : decode cX4_placeOf 62 = .ok (.ireturn, 1) := by decide +kernel
theorem dX4_hold_0 : decode cX4_hold 0 = .ok (.iload_n 1, 1) := by decide +kernel
theorem dX4_hold_1 : decode cX4_hold 1 = .ok (.istore_n 2, 1) := by decide +kernel
theorem dX4_hold_2 : decode cX4_hold 2 = .ok (.iload_n 2, 1) := by decide +kernel
theorem dX4_hold_3 : decode cX4_hold 3 = .ok (.ldc 44, 2) := by decide +kernel
theorem dX4_hold_5 : decode cX4_hold 5 = .ok (.if_icmp .eq 113, 3) := by decide +kernel
theorem dX4_hold_8 : decode cX4_hold 8 = .ok (.iconst 0, 1) := by decide +kernel
theorem dX4_hold_9 : decode cX4_hold 9 = .ok (.istore_n 3, 1) := by decide +kernel
theorem dX4_hold_10 : decode cX4_hold 10 = .ok (.iload_n 3, 1) := by decide +kernel
theorem dX4_hold_11 : decode cX4_hold 11 = .ok (.aload_n 0, 1) := by decide +kernel
theorem dX4_hold_12 : decode cX4_hold 12 = .ok (.getfield 16, 3) := by decide +kernel
theorem dX4_hold_15 : decode cX4_hold 15 = .ok (.iload_n 2, 1) := by decide +kernel
theorem dX4_hold_16 : decode cX4_hold 16 = .ok (.iaload, 1) := by decide +kernel
theorem dX4_hold_17 : decode cX4_hold 17 = .ok (.if_icmp .ge 57, 3) := by decide +kernel
theorem dX4_hold_20 : decode cX4_hold 20 = .ok (.aload_n 0, 1) := by decide +kernel
theorem dX4_hold_21 : decode cX4_hold 21 = .ok (.getfield 35, 3) := by decide +kernel
theorem dX4_hold_24 : decode cX4_hold 24 = .ok (.aload_n 0, 1) := by decide +kernel
theorem dX4_hold_25 : decode cX4_hold 25 = .ok (.getfield 67, 3) := by decide +kernel
theorem dX4_hold_28 : decode cX4_hold 28 = .ok (.aload_n 0, 1) := by decide +kernel
theorem dX4_hold_29 : decode cX4_hold 29 = .ok (.getfield 7, 3) := by decide +kernel
theorem dX4_hold_32 : decode cX4_hold 32 = .ok (.iconst 4, 1) := by decide +kernel
theorem dX4_hold_33 : decode cX4_hold 33 = .ok (.iload_n 2, 1) := by decide +kernel
theorem dX4_hold_34 : decode cX4_hold 34 = .ok (.imul, 1) := by decide +kernel
theorem dX4_hold_35 : decode cX4_hold 35 = .ok (.iload_n 3, 1) := by decide +kernel
theorem dX4_hold_36 : decode cX4_hold 36 = .ok (.iadd, 1) := by decide +kernel
theorem dX4_hold_37 : decode cX4_hold 37 = .ok (.iaload, 1) := by decide +kernel
theorem dX4_hold_38 : decode cX4_hold 38 = .ok (.iastore, 1) := by decide +kernel
theorem dX4_hold_39 : decode cX4_hold 39 = .ok (.aload_n 0, 1) := by decide +kernel
theorem dX4_hold_40 : decode cX4_hold 40 = .ok (.getfield 38, 3) := by decide +kernel
theorem dX4_hold_43 : decode cX4_hold 43 = .ok (.aload_n 0, 1) := by decide +kernel
theorem dX4_hold_44 : decode cX4_hold 44 = .ok (.getfield 67, 3) := by decide +kernel
theorem dX4_hold_47 : decode cX4_hold 47 = .ok (.aload_n 0, 1) := by decide +kernel
theorem dX4_hold_48 : decode cX4_hold 48 = .ok (.getfield 13, 3) := by decide +kernel
theorem dX4_hold_51 : decode cX4_hold 51 = .ok (.iconst 4, 1) := by decide +kernel
theorem dX4_hold_52 : decode cX4_hold 52 = .ok (.iload_n 2, 1) := by decide +kernel
theorem dX4_hold_53 : decode cX4_hold 53 = .ok (.imul, 1) := by decide +kernel
theorem dX4_hold_54 : decode cX4_hold 54 = .ok (.iload_n 3, 1) := by decide +kernel
theorem dX4_hold_55 : decode cX4_hold 55 = .ok (.iadd, 1) := by decide +kernel
theorem dX4_hold_56 : decode cX4_hold 56 = .ok (.iaload, 1) := by decide +kernel
theorem dX4_hold_57 : decode cX4_hold 57 = .ok (.iastore, 1) := by decide +kernel
theorem dX4_hold_58 : decode cX4_hold 58 = .ok (.aload_n 0, 1) := by decide +kernel
theorem dX4_hold_59 : decode cX4_hold 59 = .ok (.dup, 1) := by decide +kernel
theorem dX4_hold_60 : decode cX4_hold 60 = .ok (.getfield 67, 3) := by decide +kernel
theorem dX4_hold_63 : decode cX4_hold 63 = .ok (.iconst 1, 1) := by decide +kernel
theorem dX4_hold_64 : decode cX4_hold 64 = .ok (.iadd, 1) := by decide +kernel
theorem dX4_hold_65 : decode cX4_hold 65 = .ok (.putfield 67, 3) := by decide +kernel
theorem dX4_hold_68 : decode cX4_hold 68 = .ok (.iinc 3 1, 3) := by decide +kernel
theorem dX4_hold_71 : decode cX4_hold 71 = .ok (.goto (-61), 3) := by decide +kernel
theorem dX4_hold_74 : decode cX4_hold 74 = .ok (.aload_n 0, 1) := by decide +kernel
theorem dX4_hold_75 : decode cX4_hold 75 = .ok (.getfield 19, 3) := by decide +kernel
theorem dX4_hold_78 : decode cX4_hold 78 = .ok (.iload_n 2, 1) := by decide +kernel
theorem dX4_hold_79 : decode cX4_hold 79 = .ok (.iaload, 1) := by decide +kernel
theorem dX4_hold_80 : decode cX4_hold 80 = .ok (.istore_n 3, 1) := by decide +kernel
theorem dX4_hold_81 : decode cX4_hold 81 = .ok (.aload_n 0, 1) := by decide +kernel
theorem dX4_hold_82 : decode cX4_hold 82 = .ok (.getfield 16, 3) := by decide +kernel
theorem dX4_hold_85 : decode cX4_hold 85 = .ok (.iload_n 2, 1) := by decide +kernel
theorem dX4_hold_86 : decode cX4_hold 86 = .ok (.iconst 0, 1) := by decide +kernel
theorem dX4_hold_87 : decode cX4_hold 87 = .ok (.iastore, 1) := by decide +kernel
theorem dX4_hold_88 : decode cX4_hold 88 = .ok (.aload_n 0, 1) := by decide +kernel
theorem dX4_hold_89 : decode cX4_hold 89 = .ok (.getfield 19, 3) := by decide +kernel
theorem dX4_hold_92 : decode cX4_hold 92 = .ok (.iload_n 2, 1) := by decide +kernel
theorem dX4_hold_93 : decode cX4_hold 93 = .ok (.ldc 44, 2) := by decide +kernel
theorem dX4_hold_95 : decode cX4_hold 95 = .ok (.iastore, 1) := by decide +kernel
theorem dX4_hold_96 : decode cX4_hold 96 = .ok (.aload_n 0, 1) := by decide +kernel
theorem dX4_hold_97 : decode cX4_hold 97 = .ok (.getfield 22, 3) := by decide +kernel
theorem dX4_hold_100 : decode cX4_hold 100 = .ok (.iload_n 2, 1) := by decide +kernel
theorem dX4_hold_101 : decode cX4_hold 101 = .ok (.iload_n 2, 1) := by decide +kernel
theorem dX4_hold_102 : decode cX4_hold 102 = .ok (.bipush 64, 2) := by decide +kernel
theorem dX4_hold_104 : decode cX4_hold 104 = .ok (.if_icmp .lt 7, 3) := by decide +kernel
theorem dX4_hold_107 : decode cX4_hold 107 = .ok (.iconst 1, 1) := by decide +kernel
theorem dX4_hold_108 : decode cX4_hold 108 = .ok (.goto 4, 3) := by decide +kernel
theorem dX4_hold_111 : decode cX4_hold 111 = .ok (.iconst 0, 1) := by decide +kernel
theorem dX4_hold_112 : decode cX4_hold 112 = .ok (.bastore, 1) := by decide +kernel
theorem dX4_hold_113 : decode cX4_hold 113 = .ok (.iload_n 3, 1) := by decide +kernel
theorem dX4_hold_114 : decode cX4_hold 114 = .ok (.istore_n 2, 1) := by decide +kernel
theorem dX4_hold_115 : decode cX4_hold 115 = .ok (.goto (-113), 3) := by decide +kernel
theorem dX4_hold_118 : decode cX4_hold 118 = .ok (.return_, 1) := by decide +kernel
set_option maxRecDepth 20000 in
theorem ggX4_layHeld_X4_addressOf : GoodIn wsX4_layHeld wsX4_addressOf := goodIn_r _ [8, 9, 10, 11, 12, 13, 7, 14, 15, 30, 31, 32, 33, 34, 35, 36, 37, 38, 39, 40, 41, 42, 43, 44, 45, 46, 47, 48, 49] (by decide +kernel) (by decide +kernel)
set_option maxRecDepth 20000 in
theorem gX4_layHeld_X4_addressOf : GoodIn wsX4_layHeld (wsV RX4 64 RX4 yX4_addressOf wsX4_addressOf) := goodIn_app (goodIn_of _ (by decide +kernel)) ggX4_layHeld_X4_addressOf
set_option maxRecDepth 20000 in
theorem ggX4_layHeld_X4_add : GoodIn wsX4_layHeld wsX4_add := goodIn_r _ [19, 20, 21, 22, 23, 24, 25, 26, 27, 7, 28, 29, 30, 31, 32, 33, 34, 35, 36, 37, 38, 39, 40, 41, 42, 43, 44, 45, 46, 47, 48, 49] (by decide +kernel) (by decide +kernel)
set_option maxRecDepth 20000 in
theorem gX4_layHeld_X4_add : GoodIn wsX4_layHeld (wsV RX4 70 RX4 yX4_add wsX4_add) := goodIn_app (goodIn_of _ (by decide +kernel)) ggX4_layHeld_X4_add
theorem dX4_layHeld_0 : decode cX4_layHeld 0 = .ok (.iconst 0, 1) := by decide +kernel
theorem dX4_layHeld_1 : decode cX4_layHeld 1 = .ok (.istore_n 1, 1) := by decide +kernel
theorem dX4_layHeld_2 : decode cX4_layHeld 2 = .ok (.iload_n 1, 1) := by decide +kernel
theorem dX4_layHeld_3 : decode cX4_layHeld 3 = .ok (.aload_n 0, 1) := by decide +kernel
theorem dX4_layHeld_4 : decode cX4_layHeld 4 = .ok (.getfield 67, 3) := by decide +kernel
theorem dX4_layHeld_7 : decode cX4_layHeld 7 = .ok (.if_icmp .ge 35, 3) := by decide +kernel
theorem dX4_layHeld_10 : decode cX4_layHeld 10 = .ok (.aload_n 0, 1) := by decide +kernel
theorem dX4_layHeld_11 : decode cX4_layHeld 11 = .ok (.aload_n 0, 1) := by decide +kernel
theorem dX4_layHeld_12 : decode cX4_layHeld 12 = .ok (.aload_n 0, 1) := by decide +kernel
theorem dX4_layHeld_13 : decode cX4_layHeld 13 = .ok (.getfield 35, 3) := by decide +kernel
theorem dX4_layHeld_16 : decode cX4_layHeld 16 = .ok (.iload_n 1, 1) := by decide +kernel
theorem dX4_layHeld_17 : decode cX4_layHeld 17 = .ok (.iaload, 1) := by decide +kernel
theorem dX4_layHeld_18 : decode cX4_layHeld 18 = .ok (.invokevirtual 64, 3) := by decide +kernel
theorem dX4_layHeld_21 : decode cX4_layHeld 21 = .ok (.aload_n 0, 1) := by decide +kernel
theorem dX4_layHeld_22 : decode cX4_layHeld 22 = .ok (.getfield 35, 3) := by decide +kernel
theorem dX4_layHeld_25 : decode cX4_layHeld 25 = .ok (.iload_n 1, 1) := by decide +kernel
theorem dX4_layHeld_26 : decode cX4_layHeld 26 = .ok (.iaload, 1) := by decide +kernel
theorem dX4_layHeld_27 : decode cX4_layHeld 27 = .ok (.aload_n 0, 1) := by decide +kernel
theorem dX4_layHeld_28 : decode cX4_layHeld 28 = .ok (.getfield 38, 3) := by decide +kernel
theorem dX4_layHeld_31 : decode cX4_layHeld 31 = .ok (.iload_n 1, 1) := by decide +kernel
theorem dX4_layHeld_32 : decode cX4_layHeld 32 = .ok (.iaload, 1) := by decide +kernel
theorem dX4_layHeld_33 : decode cX4_layHeld 33 = .ok (.invokevirtual 70, 3) := by decide +kernel
theorem dX4_layHeld_36 : decode cX4_layHeld 36 = .ok (.iinc 1 1, 3) := by decide +kernel
theorem dX4_layHeld_39 : decode cX4_layHeld 39 = .ok (.goto (-37), 3) := by decide +kernel
theorem dX4_layHeld_42 : decode cX4_layHeld 42 = .ok (.return_, 1) := by decide +kernel
set_option maxRecDepth 20000 in
theorem ggX4_grow_X4_hold : GoodIn wsX4_grow wsX4_hold := goodIn_r _ [8, 9, 10, 11, 1, 12, 13, 14, 15, 16, 38, 39, 40, 41, 42, 43, 44, 45, 46, 47, 48, 49, 50, 51, 52, 53, 54, 55, 56, 57] (by decide +kernel) (by decide +kernel)
set_option maxRecDepth 20000 in
theorem gX4_grow_X4_hold : GoodIn wsX4_grow (wsV RX4 74 RX4 yX4_hold wsX4_hold) := goodIn_app (goodIn_of _ (by decide +kernel)) ggX4_grow_X4_hold
set_option maxRecDepth 20000 in
theorem ggX4_grow_X4_base : GoodIn wsX4_grow wsX4_base := goodIn_r _ [20, 3, 38, 39, 40, 41, 42, 43, 44, 45, 46, 47, 48, 49, 50, 51, 52, 53, 54, 55, 56, 57] (by decide +kernel) (by decide +kernel)
set_option maxRecDepth 20000 in
theorem gX4_grow_X4_base : GoodIn wsX4_grow (wsV RX4 55 RX4 yX4_base wsX4_base) := goodIn_app (goodIn_of _ (by decide +kernel)) ggX4_grow_X4_base
set_option maxRecDepth 20000 in
theorem ggX4_grow_X4_layHeld : GoodIn wsX4_grow wsX4_layHeld := goodIn_r _ [24, 1, 11, 13, 25, 26, 27, 7, 28, 29, 2, 17, 18, 19, 20, 3, 30, 31, 32, 33, 10, 16, 15, 12, 14, 34, 35, 36, 37, 9, 38, 39, 40, 41, 42, 43, 44, 45, 46, 47, 48, 49, 50, 51, 52, 53, 54, 55, 56, 57] (by decide +kernel) (by decide +kernel)
set_option maxRecDepth 20000 in
theorem gX4_grow_X4_layHeld : GoodIn wsX4_grow (wsV RX4 78 RX4 yX4_layHeld wsX4_layHeld) := goodIn_app (goodIn_of _ (by decide +kernel)) ggX4_grow_X4_layHeld
theorem dX4_grow_0 : decode cX4_grow 0 = .ok (.aload_n 0, 1) := by decide +kernel
theorem dX4_grow_1 : decode cX4_grow 1 = .ok (.iconst 0, 1) := by decide +kernel
theorem dX4_grow_2 : decode cX4_grow 2 = .ok (.putfield 67, 3) := by decide +kernel
theorem dX4_grow_5 : decode cX4_grow 5 = .ok (.aload_n 0, 1) := by decide +kernel
theorem dX4_grow_6 : decode cX4_grow 6 = .ok (.aload_n 0, 1) := by decide +kernel
theorem dX4_grow_7 : decode cX4_grow 7 = .ok (.getfield 49, 3) := by decide +kernel
theorem dX4_grow_10 : decode cX4_grow 10 = .ok (.invokevirtual 74, 3) := by decide +kernel
theorem dX4_grow_13 : decode cX4_grow 13 = .ok (.aload_n 0, 1) := by decide +kernel
theorem dX4_grow_14 : decode cX4_grow 14 = .ok (.dup, 1) := by decide +kernel
theorem dX4_grow_15 : decode cX4_grow 15 = .ok (.getfield 49, 3) := by decide +kernel
theorem dX4_grow_18 : decode cX4_grow 18 = .ok (.iconst 1, 1) := by decide +kernel
theorem dX4_grow_19 : decode cX4_grow 19 = .ok (.iadd, 1) := by decide +kernel
theorem dX4_grow_20 : decode cX4_grow 20 = .ok (.putfield 49, 3) := by decide +kernel
theorem dX4_grow_23 : decode cX4_grow 23 = .ok (.aload_n 0, 1) := by decide +kernel
theorem dX4_grow_24 : decode cX4_grow 24 = .ok (.getfield 49, 3) := by decide +kernel
theorem dX4_grow_27 : decode cX4_grow 27 = .ok (.aload_n 0, 1) := by decide +kernel
theorem dX4_grow_28 : decode cX4_grow 28 = .ok (.invokevirtual 55, 3) := by decide +kernel
theorem dX4_grow_31 : decode cX4_grow 31 = .ok (.if_icmp .ne 18, 3) := by decide +kernel
theorem dX4_grow_34 : decode cX4_grow 34 = .ok (.aload_n 0, 1) := by decide +kernel
theorem dX4_grow_35 : decode cX4_grow 35 = .ok (.iconst 0, 1) := by decide +kernel
theorem dX4_grow_36 : decode cX4_grow 36 = .ok (.putfield 49, 3) := by decide +kernel
theorem dX4_grow_39 : decode cX4_grow 39 = .ok (.aload_n 0, 1) := by decide +kernel
theorem dX4_grow_40 : decode cX4_grow 40 = .ok (.dup, 1) := by decide +kernel
theorem dX4_grow_41 : decode cX4_grow 41 = .ok (.getfield 45, 3) := by decide +kernel
theorem dX4_grow_44 : decode cX4_grow 44 = .ok (.iconst 1, 1) := by decide +kernel
theorem dX4_grow_45 : decode cX4_grow 45 = .ok (.iadd, 1) := by decide +kernel
theorem dX4_grow_46 : decode cX4_grow 46 = .ok (.putfield 45, 3) := by decide +kernel
theorem dX4_grow_49 : decode cX4_grow 49 = .ok (.aload_n 0, 1) := by decide +kernel
theorem dX4_grow_50 : decode cX4_grow 50 = .ok (.invokevirtual 78, 3) := by decide +kernel
theorem dX4_grow_53 : decode cX4_grow 53 = .ok (.return_, 1) := by decide +kernel
theorem dX4_manyIn_0 : decode cX4_manyIn 0 = .ok (.iconst 0, 1) := by decide +kernel
theorem dX4_manyIn_1 : decode cX4_manyIn 1 = .ok (.istore_n 2, 1) := by decide +kernel
theorem dX4_manyIn_2 : decode cX4_manyIn 2 = .ok (.iload_n 1, 1) := by decide +kernel
theorem dX4_manyIn_3 : decode cX4_manyIn 3 = .ok (.istore_n 3, 1) := by decide +kernel
theorem dX4_manyIn_4 : decode cX4_manyIn 4 = .ok (.iload_n 3, 1) := by decide +kernel
theorem dX4_manyIn_5 : decode cX4_manyIn 5 = .ok (.ldc 44, 2) := by decide +kernel
theorem dX4_manyIn_7 : decode cX4_manyIn 7 = .ok (.if_icmp .eq 22, 3) := by decide +kernel
theorem dX4_manyIn_10 : decode cX4_manyIn 10 = .ok (.iload_n 2, 1) := by decide +kernel
theorem dX4_manyIn_11 : decode cX4_manyIn 11 = .ok (.aload_n 0, 1) := by decide +kernel
theorem dX4_manyIn_12 : decode cX4_manyIn 12 = .ok (.getfield 16, 3) := by decide +kernel
theorem dX4_manyIn_15 : decode cX4_manyIn 15 = .ok (.iload_n 3, 1) := by decide +kernel
theorem dX4_manyIn_16 : decode cX4_manyIn 16 = .ok (.iaload, 1) := by decide +kernel
theorem dX4_manyIn_17 : decode cX4_manyIn 17 = .ok (.iadd, 1) := by decide +kernel
theorem dX4_manyIn_18 : decode cX4_manyIn 18 = .ok (.istore_n 2, 1) := by decide +kernel
theorem dX4_manyIn_19 : decode cX4_manyIn 19 = .ok (.aload_n 0, 1) := by decide +kernel
theorem dX4_manyIn_20 : decode cX4_manyIn 20 = .ok (.getfield 19, 3) := by decide +kernel
theorem dX4_manyIn_23 : decode cX4_manyIn 23 = .ok (.iload_n 3, 1) := by decide +kernel
theorem dX4_manyIn_24 : decode cX4_manyIn 24 = .ok (.iaload, 1) := by decide +kernel
theorem dX4_manyIn_25 : decode cX4_manyIn 25 = .ok (.istore_n 3, 1) := by decide +kernel
theorem dX4_manyIn_26 : decode cX4_manyIn 26 = .ok (.goto (-22), 3) := by decide +kernel
theorem dX4_manyIn_29 : decode cX4_manyIn 29 = .ok (.iload_n 2, 1) := by decide +kernel
theorem dX4_manyIn_30 : decode cX4_manyIn 30 = .ok (.ireturn, 1) := by decide +kernel
theorem dX4_pagesIn_0 : decode cX4_pagesIn 0 = .ok (.iconst 0, 1) := by decide +kernel
theorem dX4_pagesIn_1 : decode cX4_pagesIn 1 = .ok (.istore_n 2, 1) := by decide +kernel
theorem dX4_pagesIn_2 : decode cX4_pagesIn 2 = .ok (.iload_n 1, 1) := by decide +kernel
theorem dX4_pagesIn_3 : decode cX4_pagesIn 3 = .ok (.istore_n 3, 1) := by decide +kernel
theorem dX4_pagesIn_4 : decode cX4_pagesIn 4 = .ok (.iload_n 3, 1) := by decide +kernel
theorem dX4_pagesIn_5 : decode cX4_pagesIn 5 = .ok (.ldc 44, 2) := by decide +kernel
theorem dX4_pagesIn_7 : decode cX4_pagesIn 7 = .ok (.if_icmp .eq 16, 3) := by decide +kernel
theorem dX4_pagesIn_10 : decode cX4_pagesIn 10 = .ok (.iinc 2 1, 3) := by decide +kernel
theorem dX4_pagesIn_13 : decode cX4_pagesIn 13 = .ok (.aload_n 0, 1) := by decide +kernel
theorem dX4_pagesIn_14 : decode cX4_pagesIn 14 = .ok (.getfield 19, 3) := by decide +kernel
theorem dX4_pagesIn_17 : decode cX4_pagesIn 17 = .ok (.iload_n 3, 1) := by decide +kernel
theorem dX4_pagesIn_18 : decode cX4_pagesIn 18 = .ok (.iaload, 1) := by decide +kernel
theorem dX4_pagesIn_19 : decode cX4_pagesIn 19 = .ok (.istore_n 3, 1) := by decide +kernel
theorem dX4_pagesIn_20 : decode cX4_pagesIn 20 = .ok (.goto (-16), 3) := by decide +kernel
theorem dX4_pagesIn_23 : decode cX4_pagesIn 23 = .ok (.iload_n 2, 1) := by decide +kernel
theorem dX4_pagesIn_24 : decode cX4_pagesIn 24 = .ok (.ireturn, 1) := by decide +kernel
set_option maxRecDepth 20000 in
theorem ggX4_shrink_X4_buckets : GoodIn wsX4_shrink wsX4_buckets := goodIn_r _ [8, 1, 9, 10, 11, 7, 12, 2, 54, 55, 56, 57, 58, 59, 60, 61, 62, 63, 64, 65, 66, 67, 68, 69, 70, 71, 72, 73] (by decide +kernel) (by decide +kernel)
set_option maxRecDepth 20000 in
theorem gX4_shrink_X4_buckets : GoodIn wsX4_shrink (wsV RX4 81 RX4 yX4_buckets wsX4_buckets) := goodIn_app (goodIn_of _ (by decide +kernel)) ggX4_shrink_X4_buckets
set_option maxRecDepth 20000 in
theorem ggX4_shrink_X4_manyIn : GoodIn wsX4_shrink wsX4_manyIn := goodIn_r _ [16, 17, 18, 19, 54, 55, 56, 57, 58, 59, 60, 61, 62, 63, 64, 65, 66, 67, 68, 69, 70, 71, 72, 73] (by decide +kernel) (by decide +kernel)
set_option maxRecDepth 20000 in
theorem gX4_shrink_X4_manyIn : GoodIn wsX4_shrink (wsV RX4 84 RX4 yX4_manyIn wsX4_manyIn) := goodIn_app (goodIn_of _ (by decide +kernel)) ggX4_shrink_X4_manyIn
set_option maxRecDepth 20000 in
theorem ggX4_shrink_X4_freeOnes : GoodIn wsX4_shrink wsX4_freeOnes := goodIn_r _ [23, 24, 54, 55, 56, 57, 58, 59, 60, 61, 62, 63, 64, 65, 66, 67, 68, 69, 70, 71, 72, 73] (by decide +kernel) (by decide +kernel)
set_option maxRecDepth 20000 in
theorem gX4_shrink_X4_freeOnes : GoodIn wsX4_shrink (wsV RX4 87 RX4 yX4_freeOnes wsX4_freeOnes) := goodIn_app (goodIn_of _ (by decide +kernel)) ggX4_shrink_X4_freeOnes
set_option maxRecDepth 20000 in
theorem ggX4_shrink_X4_pagesIn : GoodIn wsX4_shrink wsX4_pagesIn := goodIn_r _ [28, 17, 19, 54, 55, 56, 57, 58, 59, 60, 61, 62, 63, 64, 65, 66, 67, 68, 69, 70, 71, 72, 73] (by decide +kernel) (by decide +kernel)
set_option maxRecDepth 20000 in
theorem gX4_shrink_X4_pagesIn : GoodIn wsX4_shrink (wsV RX4 90 RX4 yX4_pagesIn wsX4_pagesIn) := goodIn_app (goodIn_of _ (by decide +kernel)) ggX4_shrink_X4_pagesIn
set_option maxRecDepth 20000 in
theorem ggX4_shrink_X4_hold : GoodIn wsX4_shrink wsX4_hold := goodIn_r _ [32, 17, 18, 33, 3, 34, 35, 36, 19, 24, 54, 55, 56, 57, 58, 59, 60, 61, 62, 63, 64, 65, 66, 67, 68, 69, 70, 71, 72, 73] (by decide +kernel) (by decide +kernel)
set_option maxRecDepth 20000 in
theorem gX4_shrink_X4_hold : GoodIn wsX4_shrink (wsV RX4 74 RX4 yX4_hold wsX4_hold) := goodIn_app (goodIn_of _ (by decide +kernel)) ggX4_shrink_X4_hold
set_option maxRecDepth 20000 in
theorem ggX4_shrink_X4_layHeld : GoodIn wsX4_shrink wsX4_layHeld := goodIn_r _ [40, 3, 33, 35, 41, 42, 43, 7, 44, 45, 1, 9, 10, 11, 12, 2, 46, 47, 48, 49, 18, 24, 19, 34, 36, 50, 51, 52, 53, 17, 54, 55, 56, 57, 58, 59, 60, 61, 62, 63, 64, 65, 66, 67, 68, 69, 70, 71, 72, 73] (by decide +kernel) (by decide +kernel)
set_option maxRecDepth 20000 in
theorem gX4_shrink_X4_layHeld : GoodIn wsX4_shrink (wsV RX4 78 RX4 yX4_layHeld wsX4_layHeld) := goodIn_app (goodIn_of _ (by decide +kernel)) ggX4_shrink_X4_layHeld
theorem dX4_shrink_0 : decode cX4_shrink 0 = .ok (.aload_n 0, 1) := by decide +kernel
theorem dX4_shrink_1 : decode cX4_shrink 1 = .ok (.invokevirtual 81, 3) := by decide +kernel
theorem dX4_shrink_4 : decode cX4_shrink 4 = .ok (.iconst 1, 1) := by decide +kernel
theorem dX4_shrink_5 : decode cX4_shrink 5 = .ok (.isub, 1) := by decide +kernel
theorem dX4_shrink_6 : decode cX4_shrink 6 = .ok (.istore_n 1, 1) := by decide +kernel
theorem dX4_shrink_7 : decode cX4_shrink 7 = .ok (.aload_n 0, 1) := by decide +kernel
theorem dX4_shrink_8 : decode cX4_shrink 8 = .ok (.getfield 49, 3) := by decide +kernel
theorem dX4_shrink_11 : decode cX4_shrink 11 = .ok (.ifCond .ne 12, 3) := by decide +kernel
theorem dX4_shrink_14 : decode cX4_shrink 14 = .ok (.aload_n 0, 1) := by decide +kernel
theorem dX4_shrink_15 : decode cX4_shrink 15 = .ok (.getfield 45, 3) := by decide +kernel
theorem dX4_shrink_18 : decode cX4_shrink 18 = .ok (.iconst 1, 1) := by decide +kernel
theorem dX4_shrink_19 : decode cX4_shrink 19 = .ok (.isub, 1) := by decide +kernel
theorem dX4_shrink_20 : decode cX4_shrink 20 = .ok (.goto 7, 3) := by decide +kernel
theorem dX4_shrink_23 : decode cX4_shrink 23 = .ok (.aload_n 0, 1) := by decide +kernel
theorem dX4_shrink_24 : decode cX4_shrink 24 = .ok (.getfield 45, 3) := by decide +kernel
theorem dX4_shrink_27 : decode cX4_shrink 27 = .ok (.istore_n 2, 1) := by decide +kernel
theorem dX4_shrink_28 : decode cX4_shrink 28 = .ok (.aload_n 0, 1) := by decide +kernel
theorem dX4_shrink_29 : decode cX4_shrink 29 = .ok (.getfield 49, 3) := by decide +kernel
theorem dX4_shrink_32 : decode cX4_shrink 32 = .ok (.ifCond .ne 11, 3) := by decide +kernel
theorem dX4_shrink_35 : decode cX4_shrink 35 = .ok (.iconst 4, 1) := by decide +kernel
theorem dX4_shrink_36 : decode cX4_shrink 36 = .ok (.iload_n 2, 1) := by decide +kernel
theorem dX4_shrink_37 : decode cX4_shrink 37 = .ok (.ishl, 1) := by decide +kernel
theorem dX4_shrink_38 : decode cX4_shrink 38 = .ok (.iconst 1, 1) := by decide +kernel
theorem dX4_shrink_39 : decode cX4_shrink 39 = .ok (.isub, 1) := by decide +kernel
theorem dX4_shrink_40 : decode cX4_shrink 40 = .ok (.goto 9, 3) := by decide +kernel
theorem dX4_shrink_43 : decode cX4_shrink 43 = .ok (.aload_n 0, 1) := by decide +kernel
theorem dX4_shrink_44 : decode cX4_shrink 44 = .ok (.getfield 49, 3) := by decide +kernel
theorem dX4_shrink_47 : decode cX4_shrink 47 = .ok (.iconst 1, 1) := by decide +kernel
theorem dX4_shrink_48 : decode cX4_shrink 48 = .ok (.isub, 1) := by decide +kernel
theorem dX4_shrink_49 : decode cX4_shrink 49 = .ok (.istore_n 3, 1) := by decide +kernel
theorem dX4_shrink_50 : decode cX4_shrink 50 = .ok (.aload_n 0, 1) := by decide +kernel
theorem dX4_shrink_51 : decode cX4_shrink 51 = .ok (.iload_n 1, 1) := by decide +kernel
theorem dX4_shrink_52 : decode cX4_shrink 52 = .ok (.invokevirtual 84, 3) := by decide +kernel
theorem dX4_shrink_55 : decode cX4_shrink 55 = .ok (.aload_n 0, 1) := by decide +kernel
theorem dX4_shrink_56 : decode cX4_shrink 56 = .ok (.iload_n 3, 1) := by decide +kernel
theorem dX4_shrink_57 : decode cX4_shrink 57 = .ok (.invokevirtual 84, 3) := by decide +kernel
theorem dX4_shrink_60 : decode cX4_shrink 60 = .ok (.iadd, 1) := by decide +kernel
theorem dX4_shrink_61 : decode cX4_shrink 61 = .ok (.istore 4, 2) := by decide +kernel
theorem dX4_shrink_63 : decode cX4_shrink 63 = .ok (.iload 4, 2) := by decide +kernel
theorem dX4_shrink_65 : decode cX4_shrink 65 = .ok (.iconst 4, 1) := by decide +kernel
theorem dX4_shrink_66 : decode cX4_shrink 66 = .ok (.if_icmp .gt 7, 3) := by decide +kernel
theorem dX4_shrink_69 : decode cX4_shrink 69 = .ok (.iconst 0, 1) := by decide +kernel
theorem dX4_shrink_70 : decode cX4_shrink 70 = .ok (.goto 13, 3) := by decide +kernel
theorem dX4_shrink_73 : decode cX4_shrink 73 = .ok (.iload 4, 2) := by decide +kernel
theorem dX4_shrink_75 : decode cX4_shrink 75 = .ok (.iconst 4, 1) := by decide +kernel
theorem dX4_shrink_76 : decode cX4_shrink 76 = .ok (.iadd, 1) := by decide +kernel
theorem dX4_shrink_77 : decode cX4_shrink 77 = .ok (.iconst 1, 1) := by decide +kernel
theorem dX4_shrink_78 : decode cX4_shrink 78 = .ok (.isub, 1) := by decide +kernel
theorem dX4_shrink_79 : decode cX4_shrink 79 = .ok (.iconst 4, 1) := by decide +kernel
theorem dX4_shrink_80 : decode cX4_shrink 80 = .ok (.idiv, 1) := by decide +kernel
theorem dX4_shrink_81 : decode cX4_shrink 81 = .ok (.iconst 1, 1) := by decide +kernel
theorem dX4_shrink_82 : decode cX4_shrink 82 = .ok (.isub, 1) := by decide +kernel
theorem dX4_shrink_83 : decode cX4_shrink 83 = .ok (.istore 5, 2) := by decide +kernel
theorem dX4_shrink_85 : decode cX4_shrink 85 = .ok (.aload_n 0, 1) := by decide +kernel
theorem dX4_shrink_86 : decode cX4_shrink 86 = .ok (.invokevirtual 87, 3) := by decide +kernel
theorem dX4_shrink_89 : decode cX4_shrink 89 = .ok (.aload_n 0, 1) := by decide +kernel
theorem dX4_shrink_90 : decode cX4_shrink 90 = .ok (.iload_n 1, 1) := by decide +kernel
theorem dX4_shrink_91 : decode cX4_shrink 91 = .ok (.invokevirtual 90, 3) := by decide +kernel
theorem dX4_shrink_94 : decode cX4_shrink 94 = .ok (.iadd, 1) := by decide +kernel
theorem dX4_shrink_95 : decode cX4_shrink 95 = .ok (.aload_n 0, 1) := by decide +kernel
theorem dX4_shrink_96 : decode cX4_shrink 96 = .ok (.iload_n 3, 1) := by decide +kernel
theorem dX4_shrink_97 : decode cX4_shrink 97 = .ok (.invokevirtual 90, 3) := by decide +kernel
theorem dX4_shrink_100 : decode cX4_shrink 100 = .ok (.iadd, 1) := by decide +kernel
theorem dX4_shrink_101 : decode cX4_shrink 101 = .ok (.iconst 2, 1) := by decide +kernel
theorem dX4_shrink_102 : decode cX4_shrink 102 = .ok (.isub, 1) := by decide +kernel
theorem dX4_shrink_103 : decode cX4_shrink 103 = .ok (.istore 6, 2) := by decide +kernel
theorem dX4_shrink_105 : decode cX4_shrink 105 = .ok (.iload 6, 2) := by decide +kernel
theorem dX4_shrink_107 : decode cX4_shrink 107 = .ok (.iload 5, 2) := by decide +kernel
theorem dX4_shrink_109 : decode cX4_shrink 109 = .ok (.if_icmp .ge 4, 3) := by decide +kernel
theorem dX4_shrink_112 : decode cX4_shrink 112 = .ok (.return_, 1) := by decide +kernel
theorem dX4_shrink_113 : decode cX4_shrink 113 = .ok (.aload_n 0, 1) := by decide +kernel
theorem dX4_shrink_114 : decode cX4_shrink 114 = .ok (.iconst 0, 1) := by decide +kernel
theorem dX4_shrink_115 : decode cX4_shrink 115 = .ok (.putfield 67, 3) := by decide +kernel
theorem dX4_shrink_118 : decode cX4_shrink 118 = .ok (.aload_n 0, 1) := by decide +kernel
theorem dX4_shrink_119 : decode cX4_shrink 119 = .ok (.iload_n 3, 1) := by decide +kernel
theorem dX4_shrink_120 : decode cX4_shrink 120 = .ok (.invokevirtual 74, 3) := by decide +kernel
theorem dX4_shrink_123 : decode cX4_shrink 123 = .ok (.aload_n 0, 1) := by decide +kernel
theorem dX4_shrink_124 : decode cX4_shrink 124 = .ok (.iload_n 1, 1) := by decide +kernel
theorem dX4_shrink_125 : decode cX4_shrink 125 = .ok (.invokevirtual 74, 3) := by decide +kernel
theorem dX4_shrink_128 : decode cX4_shrink 128 = .ok (.aload_n 0, 1) := by decide +kernel
theorem dX4_shrink_129 : decode cX4_shrink 129 = .ok (.iload_n 2, 1) := by decide +kernel
theorem dX4_shrink_130 : decode cX4_shrink 130 = .ok (.putfield 45, 3) := by decide +kernel
theorem dX4_shrink_133 : decode cX4_shrink 133 = .ok (.aload_n 0, 1) := by decide +kernel
theorem dX4_shrink_134 : decode cX4_shrink 134 = .ok (.iload_n 3, 1) := by decide +kernel
theorem dX4_shrink_135 : decode cX4_shrink 135 = .ok (.putfield 49, 3) := by decide +kernel
theorem dX4_shrink_138 : decode cX4_shrink 138 = .ok (.aload_n 0, 1) := by decide +kernel
theorem dX4_shrink_139 : decode cX4_shrink 139 = .ok (.invokevirtual 78, 3) := by decide +kernel
theorem dX4_shrink_142 : decode cX4_shrink 142 = .ok (.return_, 1) := by decide +kernel
set_option maxRecDepth 20000 in
theorem ggX4_takeOut_X4_addressOf : GoodIn wsX4_takeOut wsX4_addressOf := goodIn_r _ [11, 12, 13, 14, 15, 16, 10, 17, 18, 23, 24, 25, 26, 27, 28, 29, 30, 31, 32, 33, 34, 35, 36, 37, 38, 39, 40, 41, 42] (by decide +kernel) (by decide +kernel)
set_option maxRecDepth 20000 in
theorem gX4_takeOut_X4_addressOf : GoodIn wsX4_takeOut (wsV RX4 64 RX4 yX4_addressOf wsX4_addressOf) := goodIn_app (goodIn_of _ (by decide +kernel)) ggX4_takeOut_X4_addressOf
set_option maxRecDepth 20000 in
theorem ggX4_takeOut_X4_lastOf : GoodIn wsX4_takeOut wsX4_lastOf := goodIn_r _ [22, 6, 5, 23, 24, 25, 26, 27, 28, 29, 30, 31, 32, 33, 34, 35, 36, 37, 38, 39, 40, 41, 42] (by decide +kernel) (by decide +kernel)
set_option maxRecDepth 20000 in
theorem gX4_takeOut_X4_lastOf : GoodIn wsX4_takeOut (wsV RX4 60 RX4 yX4_lastOf wsX4_lastOf) := goodIn_app (goodIn_of _ (by decide +kernel)) ggX4_takeOut_X4_lastOf
theorem dX4_takeOut_0 : decode cX4_takeOut 0 = .ok (.aload_n 0, 1) := by decide +kernel
theorem dX4_takeOut_1 : decode cX4_takeOut 1 = .ok (.aload_n 0, 1) := by decide +kernel
theorem dX4_takeOut_2 : decode cX4_takeOut 2 = .ok (.getfield 7, 3) := by decide +kernel
theorem dX4_takeOut_5 : decode cX4_takeOut 5 = .ok (.iload_n 1, 1) := by decide +kernel
theorem dX4_takeOut_6 : decode cX4_takeOut 6 = .ok (.iaload, 1) := by decide +kernel
theorem dX4_takeOut_7 : decode cX4_takeOut 7 = .ok (.invokevirtual 64, 3) := by decide +kernel
theorem dX4_takeOut_10 : decode cX4_takeOut 10 = .ok (.istore_n 2, 1) := by decide +kernel
theorem dX4_takeOut_11 : decode cX4_takeOut 11 = .ok (.aload_n 0, 1) := by decide +kernel
theorem dX4_takeOut_12 : decode cX4_takeOut 12 = .ok (.iload_n 2, 1) := by decide +kernel
theorem dX4_takeOut_13 : decode cX4_takeOut 13 = .ok (.invokevirtual 60, 3) := by decide +kernel
theorem dX4_takeOut_16 : decode cX4_takeOut 16 = .ok (.istore_n 3, 1) := by decide +kernel
theorem dX4_takeOut_17 : decode cX4_takeOut 17 = .ok (.iconst 4, 1) := by decide +kernel
theorem dX4_takeOut_18 : decode cX4_takeOut 18 = .ok (.iload_n 3, 1) := by decide +kernel
theorem dX4_takeOut_19 : decode cX4_takeOut 19 = .ok (.imul, 1) := by decide +kernel
theorem dX4_takeOut_20 : decode cX4_takeOut 20 = .ok (.aload_n 0, 1) := by decide +kernel
theorem dX4_takeOut_21 : decode cX4_takeOut 21 = .ok (.getfield 16, 3) := by decide +kernel
theorem dX4_takeOut_24 : decode cX4_takeOut 24 = .ok (.iload_n 3, 1) := by decide +kernel
theorem dX4_takeOut_25 : decode cX4_takeOut 25 = .ok (.iaload, 1) := by decide +kernel
theorem dX4_takeOut_26 : decode cX4_takeOut 26 = .ok (.iadd, 1) := by decide +kernel
theorem dX4_takeOut_27 : decode cX4_takeOut 27 = .ok (.iconst 1, 1) := by decide +kernel
theorem dX4_takeOut_28 : decode cX4_takeOut 28 = .ok (.isub, 1) := by decide +kernel
theorem dX4_takeOut_29 : decode cX4_takeOut 29 = .ok (.istore 4, 2) := by decide +kernel
theorem dX4_takeOut_31 : decode cX4_takeOut 31 = .ok (.aload_n 0, 1) := by decide +kernel
theorem dX4_takeOut_32 : decode cX4_takeOut 32 = .ok (.getfield 7, 3) := by decide +kernel
theorem dX4_takeOut_35 : decode cX4_takeOut 35 = .ok (.iload_n 1, 1) := by decide +kernel
theorem dX4_takeOut_36 : decode cX4_takeOut 36 = .ok (.aload_n 0, 1) := by decide +kernel
theorem dX4_takeOut_37 : decode cX4_takeOut 37 = .ok (.getfield 7, 3) := by decide +kernel
theorem dX4_takeOut_40 : decode cX4_takeOut 40 = .ok (.iload 4, 2) := by decide +kernel
theorem dX4_takeOut_42 : decode cX4_takeOut 42 = .ok (.iaload, 1) := by decide +kernel
theorem dX4_takeOut_43 : decode cX4_takeOut 43 = .ok (.iastore, 1) := by decide +kernel
theorem dX4_takeOut_44 : decode cX4_takeOut 44 = .ok (.aload_n 0, 1) := by decide +kernel
theorem dX4_takeOut_45 : decode cX4_takeOut 45 = .ok (.getfield 13, 3) := by decide +kernel
theorem dX4_takeOut_48 : decode cX4_takeOut 48 = .ok (.iload_n 1, 1) := by decide +kernel
theorem dX4_takeOut_49 : decode cX4_takeOut 49 = .ok (.aload_n 0, 1) := by decide +kernel
theorem dX4_takeOut_50 : decode cX4_takeOut 50 = .ok (.getfield 13, 3) := by decide +kernel
theorem dX4_takeOut_53 : decode cX4_takeOut 53 = .ok (.iload 4, 2) := by decide +kernel
theorem dX4_takeOut_55 : decode cX4_takeOut 55 = .ok (.iaload, 1) := by decide +kernel
theorem dX4_takeOut_56 : decode cX4_takeOut 56 = .ok (.iastore, 1) := by decide +kernel
theorem dX4_takeOut_57 : decode cX4_takeOut 57 = .ok (.aload_n 0, 1) := by decide +kernel
theorem dX4_takeOut_58 : decode cX4_takeOut 58 = .ok (.getfield 16, 3) := by decide +kernel
theorem dX4_takeOut_61 : decode cX4_takeOut 61 = .ok (.iload_n 3, 1) := by decide +kernel
theorem dX4_takeOut_62 : decode cX4_takeOut 62 = .ok (.dup2, 1) := by decide +kernel
theorem dX4_takeOut_63 : decode cX4_takeOut 63 = .ok (.iaload, 1) := by decide +kernel
theorem dX4_takeOut_64 : decode cX4_takeOut 64 = .ok (.iconst 1, 1) := by decide +kernel
theorem dX4_takeOut_65 : decode cX4_takeOut 65 = .ok (.isub, 1) := by decide +kernel
theorem dX4_takeOut_66 : decode cX4_takeOut 66 = .ok (.iastore, 1) := by decide +kernel
theorem dX4_takeOut_67 : decode cX4_takeOut 67 = .ok (.aload_n 0, 1) := by decide +kernel
theorem dX4_takeOut_68 : decode cX4_takeOut 68 = .ok (.getfield 16, 3) := by decide +kernel
theorem dX4_takeOut_71 : decode cX4_takeOut 71 = .ok (.iload_n 3, 1) := by decide +kernel
theorem dX4_takeOut_72 : decode cX4_takeOut 72 = .ok (.iaload, 1) := by decide +kernel
theorem dX4_takeOut_73 : decode cX4_takeOut 73 = .ok (.ifCond .ne 68, 3) := by decide +kernel
theorem dX4_takeOut_76 : decode cX4_takeOut 76 = .ok (.iload_n 3, 1) := by decide +kernel
theorem dX4_takeOut_77 : decode cX4_takeOut 77 = .ok (.bipush 64, 2) := by decide +kernel
theorem dX4_takeOut_79 : decode cX4_takeOut 79 = .ok (.if_icmp .lt 62, 3) := by decide +kernel
theorem dX4_takeOut_82 : decode cX4_takeOut 82 = .ok (.aload_n 0, 1) := by decide +kernel
theorem dX4_takeOut_83 : decode cX4_takeOut 83 = .ok (.getfield 22, 3) := by decide +kernel
theorem dX4_takeOut_86 : decode cX4_takeOut 86 = .ok (.iload_n 3, 1) := by decide +kernel
theorem dX4_takeOut_87 : decode cX4_takeOut 87 = .ok (.iconst 1, 1) := by decide +kernel
theorem dX4_takeOut_88 : decode cX4_takeOut 88 = .ok (.bastore, 1) := by decide +kernel
theorem dX4_takeOut_89 : decode cX4_takeOut 89 = .ok (.iload_n 2, 1) := by decide +kernel
theorem dX4_takeOut_90 : decode cX4_takeOut 90 = .ok (.istore 5, 2) := by decide +kernel
theorem dX4_takeOut_92 : decode cX4_takeOut 92 = .ok (.iload 5, 2) := by decide +kernel
theorem dX4_takeOut_94 : decode cX4_takeOut 94 = .ok (.ldc 44, 2) := by decide +kernel
theorem dX4_takeOut_96 : decode cX4_takeOut 96 = .ok (.if_icmp .eq 45, 3) := by decide +kernel
theorem dX4_takeOut_99 : decode cX4_takeOut 99 = .ok (.aload_n 0, 1) := by decide +kernel
theorem dX4_takeOut_100 : decode cX4_takeOut 100 = .ok (.getfield 19, 3) := by decide +kernel
theorem dX4_takeOut_103 : decode cX4_takeOut 103 = .ok (.iload 5, 2) := by decide +kernel
theorem dX4_takeOut_105 : decode cX4_takeOut 105 = .ok (.aload_n 0, 1) := by decide +kernel
theorem dX4_takeOut_106 : decode cX4_takeOut 106 = .ok (.getfield 19, 3) := by decide +kernel
theorem dX4_takeOut_109 : decode cX4_takeOut 109 = .ok (.iload 5, 2) := by decide +kernel
theorem dX4_takeOut_111 : decode cX4_takeOut 111 = .ok (.iaload, 1) := by decide +kernel
theorem dX4_takeOut_112 : decode cX4_takeOut 112 = .ok (.iload_n 3, 1) := by decide +kernel
theorem dX4_takeOut_113 : decode cX4_takeOut 113 = .ok (.if_icmp .ne 8, 3) := by decide +kernel
theorem dX4_takeOut_116 : decode cX4_takeOut 116 = .ok (.ldc 44, 2) := by decide +kernel
theorem dX4_takeOut_118 : decode cX4_takeOut 118 = .ok (.goto 10, 3) := by decide +kernel
theorem dX4_takeOut_121 : decode cX4_takeOut 121 = .ok (.aload_n 0, 1) := by decide +kernel
