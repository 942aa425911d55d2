theorem dX0_init_0 : decode cX0_init 0 = .ok (.aload_n 0, 1) := by decide +kernel
theorem dX0_init_1 : decode cX0_init 1 = .ok (.invokespecial 3, 3) := by decide +kernel
theorem dX0_init_4 : decode cX0_init 4 = .ok (.aload_n 0, 1) := by decide +kernel
theorem dX0_init_5 : decode cX0_init 5 = .ok (.sipush 264, 3) := by decide +kernel
theorem dX0_init_8 : decode cX0_init 8 = .ok (.newarray .int, 2) := by decide +kernel
theorem dX0_init_10 : decode cX0_init 10 = .ok (.putfield 9, 3) := by decide +kernel
theorem dX0_init_13 : decode cX0_init 13 = .ok (.aload_n 0, 1) := by decide +kernel
theorem dX0_init_14 : decode cX0_init 14 = .ok (.sipush 264, 3) := by decide +kernel
theorem dX0_init_17 : decode cX0_init 17 = .ok (.newarray .int, 2) := by decide +kernel
theorem dX0_init_19 : decode cX0_init 19 = .ok (.putfield 15, 3) := by decide +kernel
theorem dX0_init_22 : decode cX0_init 22 = .ok (.return_, 1) := by decide +kernel
theorem dX0_push_0 : decode cX0_push 0 = .ok (.aload_n 0, 1) := by decide +kernel
theorem dX0_push_1 : decode cX0_push 1 = .ok (.getfield 18, 3) := by decide +kernel
theorem dX0_push_4 : decode cX0_push 4 = .ok (.ifCond .lt 43, 3) := by decide +kernel
theorem dX0_push_7 : decode cX0_push 7 = .ok (.aload_n 0, 1) := by decide +kernel
theorem dX0_push_8 : decode cX0_push 8 = .ok (.getfield 18, 3) := by decide +kernel
theorem dX0_push_11 : decode cX0_push 11 = .ok (.sipush 264, 3) := by decide +kernel
theorem dX0_push_14 : decode cX0_push 14 = .ok (.if_icmp .ge 33, 3) := by decide +kernel
theorem dX0_push_17 : decode cX0_push 17 = .ok (.aload_n 0, 1) := by decide +kernel
theorem dX0_push_18 : decode cX0_push 18 = .ok (.getfield 9, 3) := by decide +kernel
theorem dX0_push_21 : decode cX0_push 21 = .ok (.aload_n 0, 1) := by decide +kernel
theorem dX0_push_22 : decode cX0_push 22 = .ok (.getfield 18, 3) := by decide +kernel
theorem dX0_push_25 : decode cX0_push 25 = .ok (.iload_n 1, 1) := by decide +kernel
theorem dX0_push_26 : decode cX0_push 26 = .ok (.iastore, 1) := by decide +kernel
theorem dX0_push_27 : decode cX0_push 27 = .ok (.aload_n 0, 1) := by decide +kernel
theorem dX0_push_28 : decode cX0_push 28 = .ok (.getfield 15, 3) := by decide +kernel
theorem dX0_push_31 : decode cX0_push 31 = .ok (.aload_n 0, 1) := by decide +kernel
theorem dX0_push_32 : decode cX0_push 32 = .ok (.getfield 18, 3) := by decide +kernel
theorem dX0_push_35 : decode cX0_push 35 = .ok (.iload_n 2, 1) := by decide +kernel
theorem dX0_push_36 : decode cX0_push 36 = .ok (.iastore, 1) := by decide +kernel
theorem dX0_push_37 : decode cX0_push 37 = .ok (.aload_n 0, 1) := by decide +kernel
theorem dX0_push_38 : decode cX0_push 38 = .ok (.dup, 1) := by decide +kernel
theorem dX0_push_39 : decode cX0_push 39 = .ok (.getfield 18, 3) := by decide +kernel
theorem dX0_push_42 : decode cX0_push 42 = .ok (.iconst 1, 1) := by decide +kernel
theorem dX0_push_43 : decode cX0_push 43 = .ok (.iadd, 1) := by decide +kernel
theorem dX0_push_44 : decode cX0_push 44 = .ok (.putfield 18, 3) := by decide +kernel
theorem dX0_push_47 : decode cX0_push 47 = .ok (.return_, 1) := by decide +kernel
theorem dX1_init_0 : decode cX1_init 0 = .ok (.aload_n 0, 1) := by decide +kernel
theorem dX1_init_1 : decode cX1_init 1 = .ok (.invokespecial 3, 3) := by decide +kernel
theorem dX1_init_4 : decode cX1_init 4 = .ok (.aload_n 0, 1) := by decide +kernel
theorem dX1_init_5 : decode cX1_init 5 = .ok (.bipush 64, 2) := by decide +kernel
theorem dX1_init_7 : decode cX1_init 7 = .ok (.newarray .int, 2) := by decide +kernel
theorem dX1_init_9 : decode cX1_init 9 = .ok (.putfield 9, 3) := by decide +kernel
theorem dX1_init_12 : decode cX1_init 12 = .ok (.aload_n 0, 1) := by decide +kernel
theorem dX1_init_13 : decode cX1_init 13 = .ok (.bipush 64, 2) := by decide +kernel
theorem dX1_init_15 : decode cX1_init 15 = .ok (.newarray .int, 2) := by decide +kernel
theorem dX1_init_17 : decode cX1_init 17 = .ok (.putfield 15, 3) := by decide +kernel
theorem dX1_init_20 : decode cX1_init 20 = .ok (.aload_n 0, 1) := by decide +kernel
theorem dX1_init_21 : decode cX1_init 21 = .ok (.bipush 64, 2) := by decide +kernel
theorem dX1_init_23 : decode cX1_init 23 = .ok (.newarray .int, 2) := by decide +kernel
theorem dX1_init_25 : decode cX1_init 25 = .ok (.putfield 18, 3) := by decide +kernel
theorem dX1_init_28 : decode cX1_init 28 = .ok (.aload_n 0, 1) := by decide +kernel
theorem dX1_init_29 : decode cX1_init 29 = .ok (.bipush 64, 2) := by decide +kernel
theorem dX1_init_31 : decode cX1_init 31 = .ok (.newarray .int, 2) := by decide +kernel
theorem dX1_init_33 : decode cX1_init 33 = .ok (.putfield 21, 3) := by decide +kernel
theorem dX1_init_36 : decode cX1_init 36 = .ok (.return_, 1) := by decide +kernel
theorem dX1_isFull_0 : decode cX1_isFull 0 = .ok (.aload_n 0, 1) := by decide +kernel
theorem dX1_isFull_1 : decode cX1_isFull 1 = .ok (.getfield 24, 3) := by decide +kernel
theorem dX1_isFull_4 : decode cX1_isFull 4 = .ok (.bipush 64, 2) := by decide +kernel
theorem dX1_isFull_6 : decode cX1_isFull 6 = .ok (.if_icmp .lt 7, 3) := by decide +kernel
theorem dX1_isFull_9 : decode cX1_isFull 9 = .ok (.iconst 1, 1) := by decide +kernel
theorem dX1_isFull_10 : decode cX1_isFull 10 = .ok (.goto 4, 3) := by decide +kernel
theorem dX1_isFull_13 : decode cX1_isFull 13 = .ok (.iconst 0, 1) := by decide +kernel
theorem dX1_isFull_14 : decode cX1_isFull 14 = .ok (.ireturn, 1) := by decide +kernel
theorem dX1_isOpen_0 : decode cX1_isOpen 0 = .ok (.aload_n 0, 1) := by decide +kernel
theorem dX1_isOpen_1 : decode cX1_isOpen 1 = .ok (.getfield 28, 3) := by decide +kernel
theorem dX1_isOpen_4 : decode cX1_isOpen 4 = .ok (.ireturn, 1) := by decide +kernel
theorem dX1_writeCount_0 : decode cX1_writeCount 0 = .ok (.aload_n 0, 1) := by decide +kernel
theorem dX1_writeCount_1 : decode cX1_writeCount 1 = .ok (.getfield 24, 3) := by decide +kernel
theorem dX1_writeCount_4 : decode cX1_writeCount 4 = .ok (.ireturn, 1) := by decide +kernel
theorem dX1_groupCount_0 : decode cX1_groupCount 0 = .ok (.aload_n 0, 1) := by decide +kernel
theorem dX1_groupCount_1 : decode cX1_groupCount 1 = .ok (.getfield 32, 3) := by decide +kernel
theorem dX1_groupCount_4 : decode cX1_groupCount 4 = .ok (.ireturn, 1) := by decide +kernel
theorem dX1_openWrites_0 : decode cX1_openWrites 0 = .ok (.aload_n 0, 1) := by decide +kernel
theorem dX1_openWrites_1 : decode cX1_openWrites 1 = .ok (.getfield 28, 3) := by decide +kernel
theorem dX1_openWrites_4 : decode cX1_openWrites 4 = .ok (.ifCond .eq 15, 3) := by decide +kernel
theorem dX1_openWrites_7 : decode cX1_openWrites 7 = .ok (.aload_n 0, 1) := by decide +kernel
theorem dX1_openWrites_8 : decode cX1_openWrites 8 = .ok (.getfield 24, 3) := by decide +kernel
theorem dX1_openWrites_11 : decode cX1_openWrites 11 = .ok (.aload_n 0, 1) := by decide +kernel
theorem dX1_openWrites_12 : decode cX1_openWrites 12 = .ok (.getfield 35, 3) := by decide +kernel
theorem dX1_openWrites_15 : decode cX1_openWrites 15 = .ok (.isub, 1) := by decide +kernel
theorem dX1_openWrites_16 : decode cX1_openWrites 16 = .ok (.goto 4, 3) := by decide +kernel
theorem dX1_openWrites_19 : decode cX1_openWrites 19 = .ok (.iconst 0, 1) := by decide +kernel
theorem dX1_openWrites_20 : decode cX1_openWrites 20 = .ok (.ireturn, 1) := by decide +kernel
set_option maxRecDepth 20000 in
theorem ggX1_note_X1_endGroupHere : GoodIn wsX1_note wsX1_endGroupHere := goodIn_r _ [10, 11, 12, 1, 13, 14, 15, 16, 17, 18, 19, 20] (by decide +kernel) (by decide +kernel)
set_option maxRecDepth 20000 in
theorem gX1_note_X1_endGroupHere : GoodIn wsX1_note (wsV RX1 38 RX1 yX1_endGroupHere wsX1_endGroupHere) := goodIn_app (goodIn_of _ (by decide +kernel)) ggX1_note_X1_endGroupHere
theorem dX1_note_0 : decode cX1_note 0 = .ok (.aload_n 0, 1) := by decide +kernel
theorem dX1_note_1 : decode cX1_note 1 = .ok (.getfield 24, 3) := by decide +kernel
theorem dX1_note_4 : decode cX1_note 4 = .ok (.ifCond .lt 12, 3) := by decide +kernel
theorem dX1_note_7 : decode cX1_note 7 = .ok (.aload_n 0, 1) := by decide +kernel
theorem dX1_note_8 : decode cX1_note 8 = .ok (.getfield 24, 3) := by decide +kernel
theorem dX1_note_11 : decode cX1_note 11 = .ok (.bipush 64, 2) := by decide +kernel
theorem dX1_note_13 : decode cX1_note 13 = .ok (.if_icmp .lt 4, 3) := by decide +kernel
theorem dX1_note_16 : decode cX1_note 16 = .ok (.return_, 1) := by decide +kernel
theorem dX1_note_17 : decode cX1_note 17 = .ok (.aload_n 0, 1) := by decide +kernel
theorem dX1_note_18 : decode cX1_note 18 = .ok (.getfield 9, 3) := by decide +kernel
theorem dX1_note_21 : decode cX1_note 21 = .ok (.aload_n 0, 1) := by decide +kernel
theorem dX1_note_22 : decode cX1_note 22 = .ok (.getfield 24, 3) := by decide +kernel
theorem dX1_note_25 : decode cX1_note 25 = .ok (.iload_n 1, 1) := by decide +kernel
theorem dX1_note_26 : decode cX1_note 26 = .ok (.iastore, 1) := by decide +kernel
theorem dX1_note_27 : decode cX1_note 27 = .ok (.aload_n 0, 1) := by decide +kernel
theorem dX1_note_28 : decode cX1_note 28 = .ok (.getfield 15, 3) := by decide +kernel
theorem dX1_note_31 : decode cX1_note 31 = .ok (.aload_n 0, 1) := by decide +kernel
theorem dX1_note_32 : decode cX1_note 32 = .ok (.getfield 24, 3) := by decide +kernel
theorem dX1_note_35 : decode cX1_note 35 = .ok (.iload_n 2, 1) := by decide +kernel
theorem dX1_note_36 : decode cX1_note 36 = .ok (.iastore, 1) := by decide +kernel
theorem dX1_note_37 : decode cX1_note 37 = .ok (.aload_n 0, 1) := by decide +kernel
theorem dX1_note_38 : decode cX1_note 38 = .ok (.getfield 18, 3) := by decide +kernel
theorem dX1_note_41 : decode cX1_note 41 = .ok (.aload_n 0, 1) := by decide +kernel
theorem dX1_note_42 : decode cX1_note 42 = .ok (.getfield 24, 3) := by decide +kernel
theorem dX1_note_45 : decode cX1_note 45 = .ok (.iload_n 3, 1) := by decide +kernel
theorem dX1_note_46 : decode cX1_note 46 = .ok (.iastore, 1) := by decide +kernel
theorem dX1_note_47 : decode cX1_note 47 = .ok (.aload_n 0, 1) := by decide +kernel
theorem dX1_note_48 : decode cX1_note 48 = .ok (.dup, 1) := by decide +kernel
theorem dX1_note_49 : decode cX1_note 49 = .ok (.getfield 24, 3) := by decide +kernel
theorem dX1_note_52 : decode cX1_note 52 = .ok (.iconst 1, 1) := by decide +kernel
theorem dX1_note_53 : decode cX1_note 53 = .ok (.iadd, 1) := by decide +kernel
theorem dX1_note_54 : decode cX1_note 54 = .ok (.putfield 24, 3) := by decide +kernel
theorem dX1_note_57 : decode cX1_note 57 = .ok (.aload_n 0, 1) := by decide +kernel
theorem dX1_note_58 : decode cX1_note 58 = .ok (.getfield 28, 3) := by decide +kernel
theorem dX1_note_61 : decode cX1_note 61 = .ok (.ifCond .ne 7, 3) := by decide +kernel
theorem dX1_note_64 : decode cX1_note 64 = .ok (.aload_n 0, 1) := by decide +kernel
theorem dX1_note_65 : decode cX1_note 65 = .ok (.invokevirtual 38, 3) := by decide +kernel
theorem dX1_note_68 : decode cX1_note 68 = .ok (.return_, 1) := by decide +kernel
theorem dX1_openGroup_0 : decode cX1_openGroup 0 = .ok (.aload_n 0, 1) := by decide +kernel
theorem dX1_openGroup_1 : decode cX1_openGroup 1 = .ok (.iconst 1, 1) := by decide +kernel
theorem dX1_openGroup_2 : decode cX1_openGroup 2 = .ok (.putfield 28, 3) := by decide +kernel
theorem dX1_openGroup_5 : decode cX1_openGroup 5 = .ok (.aload_n 0, 1) := by decide +kernel
theorem dX1_openGroup_6 : decode cX1_openGroup 6 = .ok (.aload_n 0, 1) := by decide +kernel
theorem dX1_openGroup_7 : decode cX1_openGroup 7 = .ok (.getfield 24, 3) := by decide +kernel
theorem dX1_openGroup_10 : decode cX1_openGroup 10 = .ok (.putfield 35, 3) := by decide +kernel
theorem dX1_openGroup_13 : decode cX1_openGroup 13 = .ok (.return_, 1) := by decide +kernel
set_option maxRecDepth 20000 in
theorem ggX1_closeGroup_X1_openWrites : GoodIn wsX1_closeGroup wsX1_openWrites := goodIn_r _ [6, 1, 7, 8, 15, 16, 17, 18, 19, 20, 21, 22] (by decide +kernel) (by decide +kernel)
set_option maxRecDepth 20000 in
theorem gX1_closeGroup_X1_openWrites : GoodIn wsX1_closeGroup (wsV RX1 41 RX1 yX1_openWrites wsX1_openWrites) := goodIn_app (goodIn_of _ (by decide +kernel)) ggX1_closeGroup_X1_openWrites
set_option maxRecDepth 20000 in
theorem ggX1_closeGroup_X1_endGroupHere : GoodIn wsX1_closeGroup wsX1_endGroupHere := goodIn_r _ [12, 13, 14, 7, 15, 16, 17, 18, 19, 20, 21, 22] (by decide +kernel) (by decide +kernel)
set_option maxRecDepth 20000 in
theorem gX1_closeGroup_X1_endGroupHere : GoodIn wsX1_closeGroup (wsV RX1 38 RX1 yX1_endGroupHere wsX1_endGroupHere) := goodIn_app (goodIn_of _ (by decide +kernel)) ggX1_closeGroup_X1_endGroupHere
theorem dX1_closeGroup_0 : decode cX1_closeGroup 0 = .ok (.aload_n 0, 1) := by decide +kernel
theorem dX1_closeGroup_1 : decode cX1_closeGroup 1 = .ok (.invokevirtual 41, 3) := by decide +kernel
theorem dX1_closeGroup_4 : decode cX1_closeGroup 4 = .ok (.ifCond .le 7, 3) := by decide +kernel
theorem dX1_closeGroup_7 : decode cX1_closeGroup 7 = .ok (.aload_n 0, 1) := by decide +kernel
theorem dX1_closeGroup_8 : decode cX1_closeGroup 8 = .ok (.invokevirtual 38, 3) := by decide +kernel
theorem dX1_closeGroup_11 : decode cX1_closeGroup 11 = .ok (.aload_n 0, 1) := by decide +kernel
theorem dX1_closeGroup_12 : decode cX1_closeGroup 12 = .ok (.iconst 0, 1) := by decide +kernel
theorem dX1_closeGroup_13 : decode cX1_closeGroup 13 = .ok (.putfield 28, 3) := by decide +kernel
theorem dX1_closeGroup_16 : decode cX1_closeGroup 16 = .ok (.return_, 1) := by decide +kernel
theorem dX1_dropOpenGroup_0 : decode cX1_dropOpenGroup 0 = .ok (.aload_n 0, 1) := by decide +kernel
theorem dX1_dropOpenGroup_1 : decode cX1_dropOpenGroup 1 = .ok (.getfield 28, 3) := by decide +kernel
theorem dX1_dropOpenGroup_4 : decode cX1_dropOpenGroup 4 = .ok (.ifCond .eq 16, 3) := by decide +kernel
theorem dX1_dropOpenGroup_7 : decode cX1_dropOpenGroup 7 = .ok (.aload_n 0, 1) := by decide +kernel
theorem dX1_dropOpenGroup_8 : decode cX1_dropOpenGroup 8 = .ok (.aload_n 0, 1) := by decide +kernel
theorem dX1_dropOpenGroup_9 : decode cX1_dropOpenGroup 9 = .ok (.getfield 35, 3) := by decide +kernel
theorem dX1_dropOpenGroup_12 : decode cX1_dropOpenGroup 12 = .ok (.putfield 24, 3) := by decide +kernel
theorem dX1_dropOpenGroup_15 : decode cX1_dropOpenGroup 15 = .ok (.aload_n 0, 1) := by decide +kernel
theorem dX1_dropOpenGroup_16 : decode cX1_dropOpenGroup 16 = .ok (.iconst 0, 1) := by decide +kernel
theorem dX1_dropOpenGroup_17 : decode cX1_dropOpenGroup 17 = .ok (.putfield 28, 3) := by decide +kernel
theorem dX1_dropOpenGroup_20 : decode cX1_dropOpenGroup 20 = .ok (.return_, 1) := by decide +kernel
theorem dX1_clear_0 : decode cX1_clear 0 = .ok (.aload_n 0, 1) := by decide +kernel
theorem dX1_clear_1 : decode cX1_clear 1 = .ok (.iconst 0, 1) := by decide +kernel
theorem dX1_clear_2 : decode cX1_clear 2 = .ok (.putfield 24, 3) := by decide +kernel
theorem dX1_clear_5 : decode cX1_clear 5 = .ok (.aload_n 0, 1) := by decide +kernel
theorem dX1_clear_6 : decode cX1_clear 6 = .ok (.iconst 0, 1) := by decide +kernel
theorem dX1_clear_7 : decode cX1_clear 7 = .ok (.putfield 32, 3) := by decide +kernel
theorem dX1_clear_10 : decode cX1_clear 10 = .ok (.aload_n 0, 1) := by decide +kernel
theorem dX1_clear_11 : decode cX1_clear 11 = .ok (.iconst 0, 1) := by decide +kernel
theorem dX1_clear_12 : decode cX1_clear 12 = .ok (.putfield 28, 3) := by decide +kernel
theorem dX1_clear_15 : decode cX1_clear 15 = .ok (.return_, 1) := by decide +kernel
theorem dX1_writesInFirstGroups_0 : decode cX1_writesInFirstGroups 0 = .ok (.iload_n 1, 1) := by decide +kernel
theorem dX1_writesInFirstGroups_1 : decode cX1_writesInFirstGroups 1 = .ok (.aload_n 0, 1) := by decide +kernel
theorem dX1_writesInFirstGroups_2 : decode cX1_writesInFirstGroups 2 = .ok (.getfield 32, 3) := by decide +kernel
theorem dX1_writesInFirstGroups_5 : decode cX1_writesInFirstGroups 5 = .ok (.invokestatic 45, 3) := by decide +kernel
theorem dX1_writesInFirstGroups_8 : decode cX1_writesInFirstGroups 8 = .ok (.istore_n 2, 1) := by decide +kernel
theorem dX1_writesInFirstGroups_9 : decode cX1_writesInFirstGroups 9 = .ok (.iload_n 2, 1) := by decide +kernel
theorem dX1_writesInFirstGroups_10 : decode cX1_writesInFirstGroups 10 = .ok (.ifCond .le 20, 3) := by decide +kernel
theorem dX1_writesInFirstGroups_13 : decode cX1_writesInFirstGroups 13 = .ok (.iload_n 2, 1) := by decide +kernel
theorem dX1_writesInFirstGroups_14 : decode cX1_writesInFirstGroups 14 = .ok (.bipush 64, 2) := by decide +kernel
theorem dX1_writesInFirstGroups_16 : decode cX1_writesInFirstGroups 16 = .ok (.if_icmp .gt 14, 3) := by decide +kernel
theorem dX1_writesInFirstGroups_19 : decode cX1_writesInFirstGroups 19 = .ok (.aload_n 0, 1) := by decide +kernel
theorem dX1_writesInFirstGroups_20 : decode cX1_writesInFirstGroups 20 = .ok (.getfield 21, 3) := by decide +kernel
theorem dX1_writesInFirstGroups_23 : decode cX1_writesInFirstGroups 23 = .ok (.iload_n 2, 1) := by decide +kernel
theorem dX1_writesInFirstGroups_24 : decode cX1_writesInFirstGroups 24 = .ok (.iconst 1, 1) := by decide +kernel
theorem dX1_writesInFirstGroups_25 : decode cX1_writesInFirstGroups 25 = .ok (.isub, 1) := by decide +kernel
theorem dX1_writesInFirstGroups_26 : decode cX1_writesInFirstGroups 26 = .ok (.iaload, 1) := by decide +kernel
theorem dX1_writesInFirstGroups_27 : decode cX1_writesInFirstGroups 27 = .ok (.goto 4, 3) := by decide +kernel
theorem dX1_writesInFirstGroups_30 : decode cX1_writesInFirstGroups 30 = .ok (.iconst 0, 1) := by decide +kernel
theorem dX1_writesInFirstGroups_31 : decode cX1_writesInFirstGroups 31 = .ok (.ireturn, 1) := by decide +kernel
set_option maxRecDepth 20000 in
theorem ggX1_kindOf_X1_isWrite : GoodIn wsX1_kindOf wsX1_isWrite := goodIn_r _ [7, 8, 9, 10, 11, 12, 13, 14, 15, 16] (by decide +kernel) (by decide +kernel)
set_option maxRecDepth 20000 in
theorem gX1_kindOf_X1_isWrite : GoodIn wsX1_kindOf (wsV RX1 51 RX1 yX1_isWrite wsX1_isWrite) := goodIn_app (goodIn_of _ (by decide +kernel)) ggX1_kindOf_X1_isWrite
theorem dX1_kindOf_0 : decode cX1_kindOf 0 = .ok (.aload_n 0, 1) := by decide +kernel
theorem dX1_kindOf_1 : decode cX1_kindOf 1 = .ok (.iload_n 1, 1) := by decide +kernel
theorem dX1_kindOf_2 : decode cX1_kindOf 2 = .ok (.invokevirtual 51, 3) := by decide +kernel
theorem dX1_kindOf_5 : decode cX1_kindOf 5 = .ok (.ifCond .eq 12, 3) := by decide +kernel
theorem dX1_kindOf_8 : decode cX1_kindOf 8 = .ok (.aload_n 0, 1) := by decide +kernel
theorem dX1_kindOf_9 : decode cX1_kindOf 9 = .ok (.getfield 9, 3) := by decide +kernel
theorem dX1_kindOf_12 : decode cX1_kindOf 12 = .ok (.iload_n 1, 1) := by decide +kernel
theorem dX1_kindOf_13 : decode cX1_kindOf 13 = .ok (.iaload, 1) := by decide +kernel
theorem dX1_kindOf_14 : decode cX1_kindOf 14 = .ok (.goto 5, 3) := by decide +kernel
theorem dX1_kindOf_17 : decode cX1_kindOf 17 = .ok (.ldc 55, 2) := by decide +kernel
theorem dX1_kindOf_19 : decode cX1_kindOf 19 = .ok (.ireturn, 1) := by decide +kernel
set_option maxRecDepth 20000 in
theorem ggX1_keyOf_X1_isWrite : GoodIn wsX1_keyOf wsX1_isWrite := goodIn_r _ [7, 8, 9, 10, 11, 12, 13, 14, 15, 16] (by decide +kernel) (by decide +kernel)
set_option maxRecDepth 20000 in
theorem gX1_keyOf_X1_isWrite : GoodIn wsX1_keyOf (wsV RX1 51 RX1 yX1_isWrite wsX1_isWrite) := goodIn_app (goodIn_of _ (by decide +kernel)) ggX1_keyOf_X1_isWrite
theorem dX1_keyOf_0 : decode cX1_keyOf 0 = .ok (.aload_n 0, 1) := by decide +kernel
theorem dX1_keyOf_1 : decode cX1_keyOf 1 = .ok (.iload_n 1, 1) := by decide +kernel
theorem dX1_keyOf_2 : decode cX1_keyOf 2 = .ok (.invokevirtual 51, 3) := by decide +kernel
theorem dX1_keyOf_5 : decode cX1_keyOf 5 = .ok (.ifCond .eq 12, 3) := by decide +kernel
theorem dX1_keyOf_8 : decode cX1_keyOf 8 = .ok (.aload_n 0, 1) := by decide +kernel
theorem dX1_keyOf_9 : decode cX1_keyOf 9 = .ok (.getfield 15, 3) := by decide +kernel
theorem dX1_keyOf_12 : decode cX1_keyOf 12 = .ok (.iload_n 1, 1) := by decide +kernel
theorem dX1_keyOf_13 : decode cX1_keyOf 13 = .ok (.iaload, 1) := by decide +kernel
theorem dX1_keyOf_14 : decode cX1_keyOf 14 = .ok (.goto 5, 3) := by decide +kernel
theorem dX1_keyOf_17 : decode cX1_keyOf 17 = .ok (.ldc 55, 2) := by decide +kernel
theorem dX1_keyOf_19 : decode cX1_keyOf 19 = .ok (.ireturn, 1) := by decide +kernel
set_option maxRecDepth 20000 in
theorem ggX1_valueOf_X1_isWrite : GoodIn wsX1_valueOf wsX1_isWrite := goodIn_r _ [7, 8, 9, 10, 11, 12, 13, 14, 15, 16] (by decide +kernel) (by decide +kernel)
set_option maxRecDepth 20000 in
theorem gX1_valueOf_X1_isWrite : GoodIn wsX1_valueOf (wsV RX1 51 RX1 yX1_isWrite wsX1_isWrite) := goodIn_app (goodIn_of _ (by decide +kernel)) ggX1_valueOf_X1_isWrite
theorem dX1_valueOf_0 : decode cX1_valueOf 0 = .ok (.aload_n 0, 1) := by decide +kernel
theorem dX1_valueOf_1 : decode cX1_valueOf 1 = .ok (.iload_n 1, 1) := by decide +kernel
theorem dX1_valueOf_2 : decode cX1_valueOf 2 = .ok (.invokevirtual 51, 3) := by decide +kernel
theorem dX1_valueOf_5 : decode cX1_valueOf 5 = .ok (.ifCond .eq 12, 3) := by decide +kernel
theorem dX1_valueOf_8 : decode cX1_valueOf 8 = .ok (.aload_n 0, 1) := by decide +kernel
theorem dX1_valueOf_9 : decode cX1_valueOf 9 = .ok (.getfield 18, 3) := by decide +kernel
theorem dX1_valueOf_12 : decode cX1_valueOf 12 = .ok (.iload_n 1, 1) := by decide +kernel
theorem dX1_valueOf_13 : decode cX1_valueOf 13 = .ok (.iaload, 1) := by decide +kernel
theorem dX1_valueOf_14 : decode cX1_valueOf 14 = .ok (.goto 5, 3) := by decide +kernel
theorem dX1_valueOf_17 : decode cX1_valueOf 17 = .ok (.ldc 55, 2) := by decide +kernel
theorem dX1_valueOf_19 : decode cX1_valueOf 19 = .ok (.ireturn, 1) := by decide +kernel
theorem dX1_isWrite_0 : decode cX1_isWrite 0 = .ok (.iload_n 1, 1) := by decide +kernel
theorem dX1_isWrite_1 : decode cX1_isWrite 1 = .ok (.ifCond .lt 21, 3) := by decide +kernel
theorem dX1_isWrite_4 : decode cX1_isWrite 4 = .ok (.iload_n 1, 1) := by decide +kernel
theorem dX1_isWrite_5 : decode cX1_isWrite 5 = .ok (.aload_n 0, 1) := by decide +kernel
theorem dX1_isWrite_6 : decode cX1_isWrite 6 = .ok (.getfield 24, 3) := by decide +kernel
theorem dX1_isWrite_9 : decode cX1_isWrite 9 = .ok (.if_icmp .ge 13, 3) := by decide +kernel
theorem dX1_isWrite_12 : decode cX1_isWrite 12 = .ok (.iload_n 1, 1) := by decide +kernel
theorem dX1_isWrite_13 : decode cX1_isWrite 13 = .ok (.bipush 64, 2) := by decide +kernel
theorem dX1_isWrite_15 : decode cX1_isWrite 15 = .ok (.if_icmp .ge 7, 3) := by decide +kernel
theorem dX1_isWrite_18 : decode cX1_isWrite 18 = .ok (.iconst 1, 1) := by decide +kernel
theorem dX1_isWrite_19 : decode cX1_isWrite 19 = .ok (.goto 4, 3) := by decide +kernel
theorem dX1_isWrite_22 : decode cX1_isWrite 22 = .ok (.iconst 0, 1) := by decide +kernel
theorem dX1_isWrite_23 : decode cX1_isWrite 23 = .ok (.ireturn, 1) := by decide +kernel
theorem dX1_endGroupHere_0 : decode cX1_endGroupHere 0 = .ok (.aload_n 0, 1) := by decide +kernel
theorem dX1_endGroupHere_1 : decode cX1_endGroupHere 1 = .ok (.getfield 32, 3) := by decide +kernel
theorem dX1_endGroupHere_4 : decode cX1_endGroupHere 4 = .ok (.ifCond .lt 35, 3) := by decide +kernel
theorem dX1_endGroupHere_7 : decode cX1_endGroupHere 7 = .ok (.aload_n 0, 1) := by decide +kernel
theorem dX1_endGroupHere_8 : decode cX1_endGroupHere 8 = .ok (.getfield 32, 3) := by decide +kernel
theorem dX1_endGroupHere_11 : decode cX1_endGroupHere 11 = .ok (.bipush 64, 2) := by decide +kernel
theorem dX1_endGroupHere_13 : decode cX1_endGroupHere 13 = .ok (.if_icmp .ge 26, 3) := by decide +kernel
theorem dX1_endGroupHere_16 : decode cX1_endGroupHere 16 = .ok (.aload_n 0, 1) := by decide +kernel
theorem dX1_endGroupHere_17 : decode cX1_endGroupHere 17 = .ok (.getfield 21, 3) := by decide +kernel
theorem dX1_endGroupHere_20 : decode cX1_endGroupHere 20 = .ok (.aload_n 0, 1) := by decide +kernel
theorem dX1_endGroupHere_21 : decode cX1_endGroupHere 21 = .ok (.getfield 32, 3) := by decide +kernel
theorem dX1_endGroupHere_24 : decode cX1_endGroupHere 24 = .ok (.aload_n 0, 1) := by decide +kernel
theorem dX1_endGroupHere_25 : decode cX1_endGroupHere 25 = .ok (.getfield 24, 3) := by decide +kernel
theorem dX1_endGroupHere_28 : decode cX1_endGroupHere 28 = .ok (.iastore, 1) := by decide +kernel
theorem dX1_endGroupHere_29 : decode cX1_endGroupHere 29 = .ok (.aload_n 0, 1) := by decide +kernel
theorem dX1_endGroupHere_30 : decode cX1_endGroupHere 30 = .ok (.dup, 1) := by decide +kernel
theorem dX1_endGroupHere_31 : decode cX1_endGroupHere 31 = .ok (.getfield 32, 3) := by decide +kernel
theorem dX1_endGroupHere_34 : decode cX1_endGroupHere 34 = .ok (.iconst 1, 1) := by decide +kernel
theorem dX1_endGroupHere_35 : decode cX1_endGroupHere 35 = .ok (.iadd, 1) := by decide +kernel
theorem dX1_endGroupHere_36 : decode cX1_endGroupHere 36 = .ok (.putfield 32, 3) := by decide +kernel
theorem dX1_endGroupHere_39 : decode cX1_endGroupHere 39 = .ok (.return_, 1) := by decide +kernel
set_option maxRecDepth 20000 in
theorem ggX2_init_J7_fill_53178 : GoodIn wsX2_init wsJ7_fill_53178 := goodIn_r _ [17] (by decide +kernel) (by decide +kernel)
set_option maxRecDepth 20000 in
theorem gX2_init_J7_fill_53178 : GoodIn wsX2_init (va_wsS RX2 38 yJ7_fill_53178 wsJ7_fill_53178) := goodIn_app (goodIn_of _ (by decide +kernel)) ggX2_init_J7_fill_53178
theorem dX2_init_0 : decode cX2_init 0 = .ok (.aload_n 0, 1) := by decide +kernel
theorem dX2_init_1 : decode cX2_init 1 = .ok (.invokespecial 3, 3) := by decide +kernel
theorem dX2_init_4 : decode cX2_init 4 = .ok (.aload_n 0, 1) := by decide +kernel
theorem dX2_init_5 : decode cX2_init 5 = .ok (.sipush 512, 3) := by decide +kernel
theorem dX2_init_8 : decode cX2_init 8 = .ok (.newarray .int, 2) := by decide +kernel
theorem dX2_init_10 : decode cX2_init 10 = .ok (.putfield 9, 3) := by decide +kernel
theorem dX2_init_13 : decode cX2_init 13 = .ok (.aload_n 0, 1) := by decide +kernel
theorem dX2_init_14 : decode cX2_init 14 = .ok (.sipush 512, 3) := by decide +kernel
theorem dX2_init_17 : decode cX2_init 17 = .ok (.newarray .int, 2) := by decide +kernel
theorem dX2_init_19 : decode cX2_init 19 = .ok (.putfield 15, 3) := by decide +kernel
theorem dX2_init_22 : decode cX2_init 22 = .ok (.aload_n 0, 1) := by decide +kernel
theorem dX2_init_23 : decode cX2_init 23 = .ok (.sipush 128, 3) := by decide +kernel
theorem dX2_init_26 : decode cX2_init 26 = .ok (.newarray .int, 2) := by decide +kernel
theorem dX2_init_28 : decode cX2_init 28 = .ok (.putfield 18, 3) := by decide +kernel
theorem dX2_init_31 : decode cX2_init 31 = .ok (.aload_n 0, 1) := by decide +kernel
theorem dX2_init_32 : decode cX2_init 32 = .ok (.sipush 128, 3) := by decide +kernel
theorem dX2_init_35 : decode cX2_init 35 = .ok (.newarray .int, 2) := by decide +kernel
theorem dX2_init_37 : decode cX2_init 37 = .ok (.putfield 21, 3) := by decide +kernel
theorem dX2_init_40 : decode cX2_init 40 = .ok (.aload_n 0, 1) := by decide +kernel
theorem dX2_init_41 : decode cX2_init 41 = .ok (.sipush 128, 3) := by decide +kernel
theorem dX2_init_44 : decode cX2_init 44 = .ok (.newarray .int, 2) := by decide +kernel
theorem dX2_init_46 : decode cX2_init 46 = .ok (.putfield 24, 3) := by decide +kernel
theorem dX2_init_49 : decode cX2_init 49 = .ok (.aload_n 0, 1) := by decide +kernel
theorem dX2_init_50 : decode cX2_init 50 = .ok (.sipush 128, 3) := by decide +kernel
theorem dX2_init_53 : decode cX2_init 53 = .ok (.newarray .int, 2) := by decide +kernel
theorem dX2_init_55 : decode cX2_init 55 = .ok (.putfield 27, 3) := by decide +kernel
theorem dX2_init_58 : decode cX2_init 58 = .ok (.aload_n 0, 1) := by decide +kernel
theorem dX2_init_59 : decode cX2_init 59 = .ok (.bipush 64, 2) := by decide +kernel
theorem dX2_init_61 : decode cX2_init 61 = .ok (.newarray .int, 2) := by decide +kernel
theorem dX2_init_63 : decode cX2_init 63 = .ok (.putfield 30, 3) := by decide +kernel
theorem dX2_init_66 : decode cX2_init 66 = .ok (.aload_n 0, 1) := by decide +kernel
theorem dX2_init_67 : decode cX2_init 67 = .ok (.aload_n 1, 1) := by decide +kernel
theorem dX2_init_68 : decode cX2_init 68 = .ok (.putfield 33, 3) := by decide +kernel
theorem dX2_init_71 : decode cX2_init 71 = .ok (.aload_n 0, 1) := by decide +kernel
theorem dX2_init_72 : decode cX2_init 72 = .ok (.getfield 21, 3) := by decide +kernel
theorem dX2_init_75 : decode cX2_init 75 = .ok (.ldc 37, 2) := by decide +kernel
theorem dX2_init_77 : decode cX2_init 77 = .ok (.invokestatic 38, 3) := by decide +kernel
theorem dX2_init_80 : decode cX2_init 80 = .ok (.aload_n 0, 1) := by decide +kernel
theorem dX2_init_81 : decode cX2_init 81 = .ok (.getfield 24, 3) := by decide +kernel
theorem dX2_init_84 : decode cX2_init 84 = .ok (.ldc 37, 2) := by decide +kernel
theorem dX2_init_86 : decode cX2_init 86 = .ok (.invokestatic 38, 3) := by decide +kernel
theorem dX2_init_89 : decode cX2_init 89 = .ok (.aload_n 0, 1) := by decide +kernel
theorem dX2_init_90 : decode cX2_init 90 = .ok (.getfield 27, 3) := by decide +kernel
theorem dX2_init_93 : decode cX2_init 93 = .ok (.ldc 37, 2) := by decide +kernel
theorem dX2_init_95 : decode cX2_init 95 = .ok (.invokestatic 38, 3) := by decide +kernel
theorem dX2_init_98 : decode cX2_init 98 = .ok (.iconst 0, 1) := by decide +kernel
theorem dX2_init_99 : decode cX2_init 99 = .ok (.istore_n 2, 1) := by decide +kernel
theorem dX2_init_100 : decode cX2_init 100 = .ok (.iload_n 2, 1) := by decide +kernel
theorem dX2_init_101 : decode cX2_init 101 = .ok (.bipush 64, 2) := by decide +kernel
theorem dX2_init_103 : decode cX2_init 103 = .ok (.if_icmp .ge 16, 3) := by decide +kernel
theorem dX2_init_106 : decode cX2_init 106 = .ok (.aload_n 0, 1) := by decide +kernel
theorem dX2_init_107 : decode cX2_init 107 = .ok (.getfield 30, 3) := by decide +kernel
theorem dX2_init_110 : decode cX2_init 110 = .ok (.iload_n 2, 1) := by decide +kernel
theorem dX2_init_111 : decode cX2_init 111 = .ok (.iload_n 2, 1) := by decide +kernel
theorem dX2_init_112 : decode cX2_init 112 = .ok (.iastore, 1) := by decide +kernel
theorem dX2_init_113 : decode cX2_init 113 = .ok (.iinc 2 1, 3) := by decide +kernel
theorem dX2_init_116 : decode cX2_init 116 = .ok (.goto (-16), 3) := by decide +kernel
theorem dX2_init_119 : decode cX2_init 119 = .ok (.return_, 1) := by decide +kernel
theorem dX2_copyFrom_0 : decode cX2_copyFrom 0 = .ok (.aload_n 1, 1) := by decide +kernel
theorem dX2_copyFrom_1 : decode cX2_copyFrom 1 = .ok (.getfield 9, 3) := by decide +kernel
theorem dX2_copyFrom_4 : decode cX2_copyFrom 4 = .ok (.iconst 0, 1) := by decide +kernel
theorem dX2_copyFrom_5 : decode cX2_copyFrom 5 = .ok (.aload_n 0, 1) := by decide +kernel
theorem dX2_copyFrom_6 : decode cX2_copyFrom 6 = .ok (.getfield 9, 3) := by decide +kernel
theorem dX2_copyFrom_9 : decode cX2_copyFrom 9 = .ok (.iconst 0, 1) := by decide +kernel
theorem dX2_copyFrom_10 : decode cX2_copyFrom 10 = .ok (.aload_n 0, 1) := by decide +kernel
theorem dX2_copyFrom_11 : decode cX2_copyFrom 11 = .ok (.getfield 9, 3) := by decide +kernel
theorem dX2_copyFrom_14 : decode cX2_copyFrom 14 = .ok (.arraylength, 1) := by decide +kernel
theorem dX2_copyFrom_15 : decode cX2_copyFrom 15 = .ok (.invokestatic 44, 3) := by decide +kernel
theorem dX2_copyFrom_18 : decode cX2_copyFrom 18 = .ok (.aload_n 1, 1) := by decide +kernel
theorem dX2_copyFrom_19 : decode cX2_copyFrom 19 = .ok (.getfield 15, 3) := by decide +kernel
theorem dX2_copyFrom_22 : decode cX2_copyFrom 22 = .ok (.iconst 0, 1) := by decide +kernel
theorem dX2_copyFrom_23 : decode cX2_copyFrom 23 = .ok (.aload_n 0, 1) := by decide +kernel
theorem dX2_copyFrom_24 : decode cX2_copyFrom 24 = .ok (.getfield 15, 3) := by decide +kernel
theorem dX2_copyFrom_27 : decode cX2_copyFrom 27 = .ok (.iconst 0, 1) := by decide +kernel
theorem dX2_copyFrom_28 : decode cX2_copyFrom 28 = .ok (.aload_n 0, 1) := by decide +kernel
theorem dX2_copyFrom_29 : decode cX2_copyFrom 29 = .ok (.getfield 15, 3) := by decide +kernel
theorem dX2_copyFrom_32 : decode cX2_copyFrom 32 = .ok (.arraylength, 1) := by decide +kernel
theorem dX2_copyFrom_33 : decode cX2_copyFrom 33 = .ok (.invokestatic 44, 3) := by decide +kernel
theorem dX2_copyFrom_36 : decode cX2_copyFrom 36 = .ok (.aload_n 1, 1) := by decide +kernel
theorem dX2_copyFrom_37 : decode cX2_copyFrom 37 = .ok (.getfield 18, 3) := by decide +kernel
theorem dX2_copyFrom_40 : decode cX2_copyFrom 40 = .ok (.iconst 0, 1) := by decide +kernel
theorem dX2_copyFrom_41 : decode cX2_copyFrom 41 = .ok (.aload_n 0, 1) := by decide +kernel
theorem dX2_copyFrom_42 : decode cX2_copyFrom 42 = .ok (.getfield 18, 3) := by decide +kernel
theorem dX2_copyFrom_45 : decode cX2_copyFrom 45 = .ok (.iconst 0, 1) := by decide +kernel
theorem dX2_copyFrom_46 : decode cX2_copyFrom 46 = .ok (.aload_n 0, 1) := by decide +kernel
theorem dX2_copyFrom_47 : decode cX2_copyFrom 47 = .ok (.getfield 18, 3) := by decide +kernel
theorem dX2_copyFrom_50 : decode cX2_copyFrom 50 = .ok (.arraylength, 1) := by decide +kernel
theorem dX2_copyFrom_51 : decode cX2_copyFrom 51 = .ok (.invokestatic 44, 3) := by decide +kernel
theorem dX2_copyFrom_54 : decode cX2_copyFrom 54 = .ok (.aload_n 1, 1) := by decide +kernel
theorem dX2_copyFrom_55 : decode cX2_copyFrom 55 = .ok (.getfield 21, 3) := by decide +kernel
theorem dX2_copyFrom_58 : decode cX2_copyFrom 58 = .ok (.iconst 0, 1) := by decide +kernel
theorem dX2_copyFrom_59 : decode cX2_copyFrom 59 = .ok (.aload_n 0, 1) := by decide +kernel
theorem dX2_copyFrom_60 : decode cX2_copyFrom 60 = .ok (.getfield 21, 3) := by decide +kernel
theorem dX2_copyFrom_63 : decode cX2_copyFrom 63 = .ok (.iconst 0, 1) := by decide +kernel
theorem dX2_copyFrom_64 : decode cX2_copyFrom 64 = .ok (.aload_n 0, 1) := by decide +kernel
theorem dX2_copyFrom_65 : decode cX2_copyFrom 65 = .ok (.getfield 21, 3) := by decide +kernel
theorem dX2_copyFrom_68 : decode cX2_copyFrom 68 = .ok (.arraylength, 1) := by decide +kernel
theorem dX2_copyFrom_69 : decode cX2_copyFrom 69 = .ok (.invokestatic 44, 3) := by decide +kernel
theorem dX2_copyFrom_72 : decode cX2_copyFrom 72 = .ok (.aload_n 1, 1) := by decide +kernel
theorem dX2_copyFrom_73 : decode cX2_copyFrom 73 = .ok (.getfield 24, 3) := by decide +kernel
theorem dX2_copyFrom_76 : decode cX2_copyFrom 76 = .ok (.iconst 0, 1) := by decide +kernel
theorem dX2_copyFrom_77 : decode cX2_copyFrom 77 = .ok (.aload_n 0, 1) := by decide +kernel
theorem dX2_copyFrom_78 : decode cX2_copyFrom 78 = .ok (.getfield 24, 3) := by decide +kernel
theorem dX2_copyFrom_81 : decode cX2_copyFrom 81 = .ok (.iconst 0, 1) := by decide +kernel
theorem dX2_copyFrom_82 : decode cX2_copyFrom 82 = .ok (.aload_n 0, 1) := by decide +kernel
theorem dX2_copyFrom_83 : decode cX2_copyFrom 83 = .ok (.getfield 24, 3) := by decide +kernel
theorem dX2_copyFrom_86 : decode cX2_copyFrom 86 = .ok (.arraylength, 1) := by decide +kernel
theorem dX2_copyFrom_87 : decode cX2_copyFrom 87 = .ok (.invokestatic 44, 3) := by decide +kernel
theorem dX2_copyFrom_90 : decode cX2_copyFrom 90 = .ok (.aload_n 1, 1) := by decide +kernel
theorem dX2_copyFrom_91 : decode cX2_copyFrom 91 = .ok (.getfield 27, 3) := by decide +kernel
theorem dX2_copyFrom_94 : decode cX2_copyFrom 94 = .ok (.iconst 0, 1) := by decide +kernel
theorem dX2_copyFrom_95 : decode cX2_copyFrom 95 = .ok (.aload_n 0, 1) := by decide +kernel
theorem dX2_copyFrom_96 : decode cX2_copyFrom 96 = .ok (.getfield 27, 3) := by decide +kernel
theorem dX2_copyFrom_99 : decode cX2_copyFrom 99 = .ok (.iconst 0, 1) := by decide +kernel
theorem dX2_copyFrom_100 : decode cX2_copyFrom 100 = .ok (.aload_n 0, 1) := by decide +kernel
theorem dX2_copyFrom_101 : decode cX2_copyFrom 101 = .ok (.getfield 27, 3) := by decide +kernel
theorem dX2_copyFrom_104 : decode cX2_copyFrom 104 = .ok (.arraylength, 1) := by decide +kernel
theorem dX2_copyFrom_105 : decode cX2_copyFrom 105 = .ok (.invokestatic 44, 3) := by decide +kernel
theorem dX2_copyFrom_108 : decode cX2_copyFrom 108 = .ok (.aload_n 1, 1) := by decide +kernel
theorem dX2_copyFrom_109 : decode cX2_copyFrom 109 = .ok (.getfield 30, 3) := by decide +kernel
theorem dX2_copyFrom_112 : decode cX2_copyFrom 112 = .ok (.iconst 0, 1) := by decide +kernel
theorem dX2_copyFrom_113 : decode cX2_copyFrom 113 = .ok (.aload_n 0, 1) := by decide +kernel
theorem dX2_copyFrom_114 : decode cX2_copyFrom 114 = .ok (.getfield 30, 3) := by decide +kernel
theorem dX2_copyFrom_117 : decode cX2_copyFrom 117 = .ok (.iconst 0, 1) := by decide +kernel
theorem dX2_copyFrom_118 : decode cX2_copyFrom 118 = .ok (.aload_n 0, 1) := by decide +kernel
theorem dX2_copyFrom_119 : decode cX2_copyFrom 119 = .ok (.getfield 30, 3) := by decide +kernel
theorem dX2_copyFrom_122 : decode cX2_copyFrom 122 = .ok (.arraylength, 1) := by decide +kernel
theorem dX2_copyFrom_123 : decode cX2_copyFrom 123 = .ok (.invokestatic 44, 3) := by decide +kernel
theorem dX2_copyFrom_126 : decode cX2_copyFrom 126 = .ok (.aload_n 0, 1) := by decide +kernel
theorem dX2_copyFrom_127 : decode cX2_copyFrom 127 = .ok (.aload_n 1, 1) := by decide +kernel
theorem dX2_copyFrom_128 : decode cX2_copyFrom 128 = .ok (.getfield 50, 3) := by decide +kernel
theorem dX2_copyFrom_131 : decode cX2_copyFrom 131 = .ok (.putfield 50, 3) := by decide +kernel
theorem dX2_copyFrom_134 : decode cX2_copyFrom 134 = .ok (.aload_n 0, 1) := by decide +kernel
theorem dX2_copyFrom_135 : decode cX2_copyFrom 135 = .ok (.aload_n 1, 1) := by decide +kernel
theorem dX2_copyFrom_136 : decode cX2_copyFrom 136 = .ok (.getfield 54, 3) := by decide +kernel
theorem dX2_copyFrom_139 : decode cX2_copyFrom 139 = .ok (.putfield 54, 3) := by decide +kernel
theorem dX2_copyFrom_142 : decode cX2_copyFrom 142 = .ok (.aload_n 0, 1) := by decide +kernel
theorem dX2_copyFrom_143 : decode cX2_copyFrom 143 = .ok (.aload_n 1, 1) := by decide +kernel
theorem dX2_copyFrom_144 : decode cX2_copyFrom 144 = .ok (.getfield 57, 3) := by decide +kernel
theorem dX2_copyFrom_147 : decode cX2_copyFrom 147 = .ok (.putfield 57, 3) := by decide +kernel
theorem dX2_copyFrom_150 : decode cX2_copyFrom 150 = .ok (.return_, 1) := by decide +kernel
theorem dX2_entryCount_0 : decode cX2_entryCount 0 = .ok (.aload_n 0, 1) := by decide +kernel
theorem dX2_entryCount_1 : decode cX2_entryCount 1 = .ok (.getfield 57, 3) := by decide +kernel
theorem dX2_entryCount_4 : decode cX2_entryCount 4 = .ok (.ireturn, 1) := by decide +kernel
theorem dX2_levelNumber_0 : decode cX2_levelNumber 0 = .ok (.aload_n 0, 1) := by decide +kernel
theorem dX2_levelNumber_1 : decode cX2_levelNumber 1 = .ok (.getfield 50, 3) := by decide +kernel
theorem dX2_levelNumber_4 : decode cX2_levelNumber 4 = .ok (.ireturn, 1) := by decide +kernel
theorem dX2_splitNumber_0 : decode cX2_splitNumber 0 = .ok (.aload_n 0, 1) := by decide +kernel
theorem dX2_splitNumber_1 : decode cX2_splitNumber 1 = .ok (.getfield 54, 3) := by decide +kernel
theorem dX2_splitNumber_4 : decode cX2_splitNumber 4 = .ok (.ireturn, 1) := by decide +kernel
theorem dX2_bucketCount_0 : decode cX2_bucketCount 0 = .ok (.iconst 4, 1) := by decide +kernel
theorem dX2_bucketCount_1 : decode cX2_bucketCount 1 = .ok (.aload_n 0, 1) := by decide +kernel
theorem dX2_bucketCount_2 : decode cX2_bucketCount 2 = .ok (.getfield 50, 3) := by decide +kernel
theorem dX2_bucketCount_5 : decode cX2_bucketCount 5 = .ok (.ishl, 1) := by decide +kernel
theorem dX2_bucketCount_6 : decode cX2_bucketCount 6 = .ok (.aload_n 0, 1) := by decide +kernel
theorem dX2_bucketCount_7 : decode cX2_bucketCount 7 = .ok (.getfield 54, 3) := by decide +kernel
theorem dX2_bucketCount_10 : decode cX2_bucketCount 10 = .ok (.iadd, 1) := by decide +kernel
theorem dX2_bucketCount_11 : decode cX2_bucketCount 11 = .ok (.ireturn, 1) := by decide +kernel
theorem dX2_addressOf_0 : decode cX2_addressOf 0 = .ok (.iload_n 1, 1) := by decide +kernel
theorem dX2_addressOf_1 : decode cX2_addressOf 1 = .ok (.ldc 60, 2) := by decide +kernel
theorem dX2_addressOf_3 : decode cX2_addressOf 3 = .ok (.imul, 1) := by decide +kernel
theorem dX2_addressOf_4 : decode cX2_addressOf 4 = .ok (.istore_n 2, 1) := by decide +kernel
theorem dX2_addressOf_5 : decode cX2_addressOf 5 = .ok (.iload_n 2, 1) := by decide +kernel
theorem dX2_addressOf_6 : decode cX2_addressOf 6 = .ok (.iload_n 2, 1) := by decide +kernel
theorem dX2_addressOf_7 : decode cX2_addressOf 7 = .ok (.bipush 15, 2) := by decide +kernel
theorem dX2_addressOf_9 : decode cX2_addressOf 9 = .ok (.iushr, 1) := by decide +kernel
theorem dX2_addressOf_10 : decode cX2_addressOf 10 = .ok (.ixor, 1) := by decide +kernel
theorem dX2_addressOf_11 : decode cX2_addressOf 11 = .ok (.istore_n 2, 1) := by decide +kernel
theorem dX2_addressOf_12 : decode cX2_addressOf 12 = .ok (.iload_n 2, 1) := by decide +kernel
theorem dX2_addressOf_13 : decode cX2_addressOf 13 = .ok (.iconst 4, 1) := by decide +kernel
theorem dX2_addressOf_14 : decode cX2_addressOf 14 = .ok (.aload_n 0, 1) := by decide +kernel
theorem dX2_addressOf_15 : decode cX2_addressOf 15 = .ok (.getfield 50, 3) := by decide +kernel
theorem dX2_addressOf_18 : decode cX2_addressOf 18 = .ok (.ishl, 1) := by decide +kernel
theorem dX2_addressOf_19 : decode cX2_addressOf 19 = .ok (.iconst 1, 1) := by decide +kernel
theorem dX2_addressOf_20 : decode cX2_addressOf 20 = .ok (.isub, 1) := by decide +kernel
theorem dX2_addressOf_21 : decode cX2_addressOf 21 = .ok (.iand, 1) := by decide +kernel
theorem dX2_addressOf_22 : decode cX2_addressOf 22 = .ok (.istore_n 3, 1) := by decide +kernel
theorem dX2_addressOf_23 : decode cX2_addressOf 23 = .ok (.iload_n 3, 1) := by decide +kernel
theorem dX2_addressOf_24 : decode cX2_addressOf 24 = .ok (.aload_n 0, 1) := by decide +kernel
theorem dX2_addressOf_25 : decode cX2_addressOf 25 = .ok (.getfield 54, 3) := by decide +kernel
theorem dX2_addressOf_28 : decode cX2_addressOf 28 = .ok (.if_icmp .ge 17, 3) := by decide +kernel
theorem dX2_addressOf_31 : decode cX2_addressOf 31 = .ok (.iload_n 2, 1) := by decide +kernel
theorem dX2_addressOf_32 : decode cX2_addressOf 32 = .ok (.bipush 8, 2) := by decide +kernel
theorem dX2_addressOf_34 : decode cX2_addressOf 34 = .ok (.aload_n 0, 1) := by decide +kernel
theorem dX2_addressOf_35 : decode cX2_addressOf 35 = .ok (.getfield 50, 3) := by decide +kernel
theorem dX2_addressOf_38 : decode cX2_addressOf 38 = .ok (.ishl, 1) := by decide +kernel
theorem dX2_addressOf_39 : decode cX2_addressOf 39 = .ok (.iconst 1, 1) := by decide +kernel
theorem dX2_addressOf_40 : decode cX2_addressOf 40 = .ok (.isub, 1) := by decide +kernel
theorem dX2_addressOf_41 : decode cX2_addressOf 41 = .ok (.iand, 1) := by decide +kernel
theorem dX2_addressOf_42 : decode cX2_addressOf 42 = .ok (.goto 4, 3) := by decide +kernel
theorem dX2_addressOf_45 : decode cX2_addressOf 45 = .ok (.iload_n 3, 1) := by decide +kernel
theorem dX2_addressOf_46 : decode cX2_addressOf 46 = .ok (.ireturn, 1) := by decide +kernel
theorem dX2_keyIn_0 : decode cX2_keyIn 0 = .ok (.iload_n 1, 1) := by decide +kernel
theorem dX2_keyIn_1 : decode cX2_keyIn 1 = .ok (.ifCond .lt 21, 3) := by decide +kernel
theorem dX2_keyIn_4 : decode cX2_keyIn 4 = .ok (.iload_n 1, 1) := by decide +kernel
theorem dX2_keyIn_5 : decode cX2_keyIn 5 = .ok (.aload_n 0, 1) := by decide +kernel
theorem dX2_keyIn_6 : decode cX2_keyIn 6 = .ok (.getfield 9, 3) := by decide +kernel
theorem dX2_keyIn_9 : decode cX2_keyIn 9 = .ok (.arraylength, 1) := by decide +kernel
theorem dX2_keyIn_10 : decode cX2_keyIn 10 = .ok (.if_icmp .ge 12, 3) := by decide +kernel
theorem dX2_keyIn_13 : decode cX2_keyIn 13 = .ok (.aload_n 0, 1) := by decide +kernel
theorem dX2_keyIn_14 : decode cX2_keyIn 14 = .ok (.getfield 9, 3) := by decide +kernel
theorem dX2_keyIn_17 : decode cX2_keyIn 17 = .ok (.iload_n 1, 1) := by decide +kernel
theorem dX2_keyIn_18 : decode cX2_keyIn 18 = .ok (.iaload, 1) := by decide +kernel
theorem dX2_keyIn_19 : decode cX2_keyIn 19 = .ok (.goto 5, 3) := by decide +kernel
theorem dX2_keyIn_22 : decode cX2_keyIn 22 = .ok (.ldc 37, 2) := by decide +kernel
theorem dX2_keyIn_24 : decode cX2_keyIn 24 = .ok (.ireturn, 1) := by decide +kernel
theorem dX2_valueIn_0 : decode cX2_valueIn 0 = .ok (.iload_n 1, 1) := by decide +kernel
theorem dX2_valueIn_1 : decode cX2_valueIn 1 = .ok (.ifCond .lt 21, 3) := by decide +kernel
theorem dX2_valueIn_4 : decode cX2_valueIn 4 = .ok (.iload_n 1, 1) := by decide +kernel
theorem dX2_valueIn_5 : decode cX2_valueIn 5 = .ok (.aload_n 0, 1) := by decide +kernel
theorem dX2_valueIn_6 : decode cX2_valueIn 6 = .ok (.getfield 15, 3) := by decide +kernel
theorem dX2_valueIn_9 : decode cX2_valueIn 9 = .ok (.arraylength, 1) := by decide +kernel
theorem dX2_valueIn_10 : decode cX2_valueIn 10 = .ok (.if_icmp .ge 12, 3) := by decide +kernel
theorem dX2_valueIn_13 : decode cX2_valueIn 13 = .ok (.aload_n 0, 1) := by decide +kernel
theorem dX2_valueIn_14 : decode cX2_valueIn 14 = .ok (.getfield 15, 3) := by decide +kernel
theorem dX2_valueIn_17 : decode cX2_valueIn 17 = .ok (.iload_n 1, 1) := by decide +kernel
theorem dX2_valueIn_18 : decode cX2_valueIn 18 = .ok (.iaload, 1) := by decide +kernel
theorem dX2_valueIn_19 : decode cX2_valueIn 19 = .ok (.goto 5, 3) := by decide +kernel
theorem dX2_valueIn_22 : decode cX2_valueIn 22 = .ok (.ldc 37, 2) := by decide +kernel
theorem dX2_valueIn_24 : decode cX2_valueIn 24 = .ok (.ireturn, 1) := by decide +kernel
set_option maxRecDepth 20000 in
theorem ggX2_entriesOnPage_X3_isPage : GoodIn wsX2_entriesOnPage wsX3_isPage := goodIn_r _ [4] (by decide +kernel) (by decide +kernel)
set_option maxRecDepth 20000 in
theorem gX2_entriesOnPage_X3_isPage_n61 : GoodIn wsX2_entriesOnPage (wsX3_isPage) := ggX2_entriesOnPage_X3_isPage
theorem dX2_entriesOnPage_0 : decode cX2_entriesOnPage 0 = .ok (.iload_n 1, 1) := by decide +kernel
theorem dX2_entriesOnPage_1 : decode cX2_entriesOnPage 1 = .ok (.invokestatic 61, 3) := by decide +kernel
theorem dX2_entriesOnPage_4 : decode cX2_entriesOnPage 4 = .ok (.ifCond .eq 12, 3) := by decide +kernel
theorem dX2_entriesOnPage_7 : decode cX2_entriesOnPage 7 = .ok (.aload_n 0, 1) := by decide +kernel
theorem dX2_entriesOnPage_8 : decode cX2_entriesOnPage 8 = .ok (.getfield 18, 3) := by decide +kernel
theorem dX2_entriesOnPage_11 : decode cX2_entriesOnPage 11 = .ok (.iload_n 1, 1) := by decide +kernel
theorem dX2_entriesOnPage_12 : decode cX2_entriesOnPage 12 = .ok (.iaload, 1) := by decide +kernel
theorem dX2_entriesOnPage_13 : decode cX2_entriesOnPage 13 = .ok (.goto 4, 3) := by decide +kernel
theorem dX2_entriesOnPage_16 : decode cX2_entriesOnPage 16 = .ok (.iconst 0, 1) := by decide +kernel
theorem dX2_entriesOnPage_17 : decode cX2_entriesOnPage 17 = .ok (.ireturn, 1) := by decide +kernel
set_option maxRecDepth 20000 in
theorem ggX2_pageBehind_X3_isPage : GoodIn wsX2_pageBehind wsX3_isPage := goodIn_r _ [5] (by decide +kernel) (by decide +kernel)
set_option maxRecDepth 20000 in
theorem gX2_pageBehind_X3_isPage_n61 : GoodIn wsX2_pageBehind (wsX3_isPage) := ggX2_pageBehind_X3_isPage
theorem dX2_pageBehind_0 : decode cX2_pageBehind 0 = .ok (.iload_n 1, 1) := by decide +kernel
theorem dX2_pageBehind_1 : decode cX2_pageBehind 1 = .ok (.invokestatic 61, 3) := by decide +kernel
theorem dX2_pageBehind_4 : decode cX2_pageBehind 4 = .ok (.ifCond .eq 12, 3) := by decide +kernel
theorem dX2_pageBehind_7 : decode cX2_pageBehind 7 = .ok (.aload_n 0, 1) := by decide +kernel
theorem dX2_pageBehind_8 : decode cX2_pageBehind 8 = .ok (.getfield 21, 3) := by decide +kernel
theorem dX2_pageBehind_11 : decode cX2_pageBehind 11 = .ok (.iload_n 1, 1) := by decide +kernel
theorem dX2_pageBehind_12 : decode cX2_pageBehind 12 = .ok (.iaload, 1) := by decide +kernel
theorem dX2_pageBehind_13 : decode cX2_pageBehind 13 = .ok (.goto 5, 3) := by decide +kernel
theorem dX2_pageBehind_16 : decode cX2_pageBehind 16 = .ok (.ldc 37, 2) := by decide +kernel
theorem dX2_pageBehind_18 : decode cX2_pageBehind 18 = .ok (.ireturn, 1) := by decide +kernel
set_option maxRecDepth 20000 in
theorem ggX2_bucketOfPage_X3_isPage : GoodIn wsX2_bucketOfPage wsX3_isPage := goodIn_r _ [5] (by decide +kernel) (by decide +kernel)
set_option maxRecDepth 20000 in
theorem gX2_bucketOfPage_X3_isPage_n61 : GoodIn wsX2_bucketOfPage (wsX3_isPage) := ggX2_bucketOfPage_X3_isPage
set_option maxRecDepth 20000 in
theorem ggX2_bucketOfPage_X2_bucketCount : GoodIn wsX2_bucketOfPage wsX2_bucketCount := goodIn_r _ [10, 11, 12, 13, 14, 15, 16, 17, 18, 19, 20, 21, 22, 23] (by decide +kernel) (by decide +kernel)
set_option maxRecDepth 20000 in
theorem gX2_bucketOfPage_X2_bucketCount : GoodIn wsX2_bucketOfPage (wsV RX2 65 RX2 yX2_bucketCount wsX2_bucketCount) := goodIn_app (goodIn_of _ (by decide +kernel)) ggX2_bucketOfPage_X2_bucketCount
theorem dX2_bucketOfPage_0 : decode cX2_bucketOfPage 0 = .ok (.iload_n 1, 1) := by decide +kernel
theorem dX2_bucketOfPage_1 : decode cX2_bucketOfPage 1 = .ok (.invokestatic 61, 3) := by decide +kernel
theorem dX2_bucketOfPage_4 : decode cX2_bucketOfPage 4 = .ok (.ifCond .ne 6, 3) := by decide +kernel
theorem dX2_bucketOfPage_7 : decode cX2_bucketOfPage 7 = .ok (.ldc 37, 2) := by decide +kernel
theorem dX2_bucketOfPage_9 : decode cX2_bucketOfPage 9 = .ok (.ireturn, 1) := by decide +kernel
theorem dX2_bucketOfPage_10 : decode cX2_bucketOfPage 10 = .ok (.iload_n 1, 1) := by decide +kernel
theorem dX2_bucketOfPage_11 : decode cX2_bucketOfPage 11 = .ok (.bipush 64, 2) := by decide +kernel
theorem dX2_bucketOfPage_13 : decode cX2_bucketOfPage 13 = .ok (.if_icmp .ge 18, 3) := by decide +kernel
theorem dX2_bucketOfPage_16 : decode cX2_bucketOfPage 16 = .ok (.iload_n 1, 1) := by decide +kernel
theorem dX2_bucketOfPage_17 : decode cX2_bucketOfPage 17 = .ok (.aload_n 0, 1) := by decide +kernel
theorem dX2_bucketOfPage_18 : decode cX2_bucketOfPage 18 = .ok (.invokevirtual 65, 3) := by decide +kernel
theorem dX2_bucketOfPage_21 : decode cX2_bucketOfPage 21 = .ok (.if_icmp .ge 7, 3) := by decide +kernel
theorem dX2_bucketOfPage_24 : decode cX2_bucketOfPage 24 = .ok (.iload_n 1, 1) := by decide +kernel
theorem dX2_bucketOfPage_25 : decode cX2_bucketOfPage 25 = .ok (.goto 5, 3) := by decide +kernel
theorem dX2_bucketOfPage_28 : decode cX2_bucketOfPage 28 = .ok (.ldc 37, 2) := by decide +kernel
theorem dX2_bucketOfPage_30 : decode cX2_bucketOfPage 30 = .ok (.ireturn, 1) := by decide +kernel
theorem dX2_bucketOfPage_31 : decode cX2_bucketOfPage 31 = .ok (.aload_n 0, 1) := by decide +kernel
theorem dX2_bucketOfPage_32 : decode cX2_bucketOfPage 32 = .ok (.getfield 27, 3) := by decide +kernel
theorem dX2_bucketOfPage_35 : decode cX2_bucketOfPage 35 = .ok (.iload_n 1, 1) := by decide +kernel
theorem dX2_bucketOfPage_36 : decode cX2_bucketOfPage 36 = .ok (.iaload, 1) := by decide +kernel
theorem dX2_bucketOfPage_37 : decode cX2_bucketOfPage 37 = .ok (.ireturn, 1) := by decide +kernel
set_option maxRecDepth 20000 in
theorem ggX2_lastPage_X2_isBucketPlace : GoodIn wsX2_lastPage wsX2_isBucketPlace := goodIn_r _ [6] (by decide +kernel) (by decide +kernel)
set_option maxRecDepth 20000 in
theorem gX2_lastPage_X2_isBucketPlace : GoodIn wsX2_lastPage (va_wsS RX2 69 yX2_isBucketPlace wsX2_isBucketPlace) := goodIn_app (goodIn_of _ (by decide +kernel)) ggX2_lastPage_X2_isBucketPlace
theorem dX2_lastPage_0 : decode cX2_lastPage 0 = .ok (.iload_n 1, 1) := by decide +kernel
theorem dX2_lastPage_1 : decode cX2_lastPage 1 = .ok (.invokestatic 69, 3) := by decide +kernel
theorem dX2_lastPage_4 : decode cX2_lastPage 4 = .ok (.ifCond .eq 12, 3) := by decide +kernel
theorem dX2_lastPage_7 : decode cX2_lastPage 7 = .ok (.aload_n 0, 1) := by decide +kernel
theorem dX2_lastPage_8 : decode cX2_lastPage 8 = .ok (.getfield 30, 3) := by decide +kernel
theorem dX2_lastPage_11 : decode cX2_lastPage 11 = .ok (.iload_n 1, 1) := by decide +kernel
theorem dX2_lastPage_12 : decode cX2_lastPage 12 = .ok (.iaload, 1) := by decide +kernel
theorem dX2_lastPage_13 : decode cX2_lastPage 13 = .ok (.goto 5, 3) := by decide +kernel
theorem dX2_lastPage_16 : decode cX2_lastPage 16 = .ok (.ldc 37, 2) := by decide +kernel
theorem dX2_lastPage_18 : decode cX2_lastPage 18 = .ok (.ireturn, 1) := by decide +kernel
set_option maxRecDepth 20000 in
theorem ggX2_pagesInChain_X3_isPage : GoodIn wsX2_pagesInChain wsX3_isPage := goodIn_r _ [4] (by decide +kernel) (by decide +kernel)
set_option maxRecDepth 20000 in
theorem gX2_pagesInChain_X3_isPage_n61 : GoodIn wsX2_pagesInChain (wsX3_isPage) := ggX2_pagesInChain_X3_isPage
theorem dX2_pagesInChain_0 : decode cX2_pagesInChain 0 = .ok (.iconst 0, 1) := by decide +kernel
theorem dX2_pagesInChain_1 : decode cX2_pagesInChain 1 = .ok (.istore_n 2, 1) := by decide +kernel
theorem dX2_pagesInChain_2 : decode cX2_pagesInChain 2 = .ok (.iload_n 1, 1) := by decide +kernel
theorem dX2_pagesInChain_3 : decode cX2_pagesInChain 3 = .ok (.istore_n 3, 1) := by decide +kernel
theorem dX2_pagesInChain_4 : decode cX2_pagesInChain 4 = .ok (.iload_n 2, 1) := by decide +kernel
theorem dX2_pagesInChain_5 : decode cX2_pagesInChain 5 = .ok (.sipush 128, 3) := by decide +kernel
theorem dX2_pagesInChain_8 : decode cX2_pagesInChain 8 = .ok (.if_icmp .ge 23, 3) := by decide +kernel
theorem dX2_pagesInChain_11 : decode cX2_pagesInChain 11 = .ok (.iload_n 3, 1) := by decide +kernel
theorem dX2_pagesInChain_12 : decode cX2_pagesInChain 12 = .ok (.invokestatic 61, 3) := by decide +kernel
theorem dX2_pagesInChain_15 : decode cX2_pagesInChain 15 = .ok (.ifCond .eq 16, 3) := by decide +kernel
theorem dX2_pagesInChain_18 : decode cX2_pagesInChain 18 = .ok (.iinc 2 1, 3) := by decide +kernel
theorem dX2_pagesInChain_21 : decode cX2_pagesInChain 21 = .ok (.aload_n 0, 1) := by decide +kernel
theorem dX2_pagesInChain_22 : decode cX2_pagesInChain 22 = .ok (.getfield 21, 3) := by decide +kernel
theorem dX2_pagesInChain_25 : decode cX2_pagesInChain 25 = .ok (.iload_n 3, 1) := by decide +kernel
theorem dX2_pagesInChain_26 : decode cX2_pagesInChain 26 = .ok (.iaload, 1) := by decide +kernel
theorem dX2_pagesInChain_27 : decode cX2_pagesInChain 27 = .ok (.istore_n 3, 1) := by decide +kernel
theorem dX2_pagesInChain_28 : decode cX2_pagesInChain 28 = .ok (.goto (-24), 3) := by decide +kernel
theorem dX2_pagesInChain_31 : decode cX2_pagesInChain 31 = .ok (.iload_n 2, 1) := by decide +kernel
theorem dX2_pagesInChain_32 : decode cX2_pagesInChain 32 = .ok (.ireturn, 1) := by decide +kernel
set_option maxRecDepth 20000 in
theorem ggX2_entriesInChain_X2_pagesInChain : GoodIn wsX2_entriesInChain wsX2_pagesInChain := goodIn_r _ [5, 6, 7, 8, 9, 24, 25, 26, 27, 28, 29, 30, 31, 32, 33, 34] (by decide +kernel) (by decide +kernel)
set_option maxRecDepth 20000 in
theorem gX2_entriesInChain_X2_pagesInChain : GoodIn wsX2_entriesInChain (wsV RX2 72 RX2 yX2_pagesInChain wsX2_pagesInChain) := goodIn_app (goodIn_of _ (by decide +kernel)) ggX2_entriesInChain_X2_pagesInChain
set_option maxRecDepth 20000 in
theorem ggX2_entriesInChain_X2_lastPage : GoodIn wsX2_entriesInChain wsX2_lastPage := goodIn_r _ [13, 14, 15, 16, 17, 4, 18, 24, 25, 26, 27, 28, 29, 30, 31, 32, 33, 34] (by decide +kernel) (by decide +kernel)
set_option maxRecDepth 20000 in
theorem gX2_entriesInChain_X2_lastPage : GoodIn wsX2_entriesInChain (wsV RX2 76 RX2 yX2_lastPage wsX2_lastPage) := goodIn_app (goodIn_of _ (by decide +kernel)) ggX2_entriesInChain_X2_lastPage
set_option maxRecDepth 20000 in
theorem ggX2_entriesInChain_X2_entriesOnPage : GoodIn wsX2_entriesInChain wsX2_entriesOnPage := goodIn_r _ [22, 23, 7, 8, 9, 24, 25, 26, 27, 28, 29, 30, 31, 32, 33, 34] (by decide +kernel) (by decide +kernel)
set_option maxRecDepth 20000 in
theorem gX2_entriesInChain_X2_entriesOnPage : GoodIn wsX2_entriesInChain (wsV RX2 79 RX2 yX2_entriesOnPage wsX2_entriesOnPage) := goodIn_app (goodIn_of _ (by decide +kernel)) ggX2_entriesInChain_X2_entriesOnPage
theorem dX2_entriesInChain_0 : decode cX2_entriesInChain 0 = .ok (.aload_n 0, 1) := by decide +kernel
theorem dX2_entriesInChain_1 : decode cX2_entriesInChain 1 = .ok (.iload_n 1, 1) := by decide +kernel
theorem dX2_entriesInChain_2 : decode cX2_entriesInChain 2 = .ok (.invokevirtual 72, 3) := by decide +kernel
theorem dX2_entriesInChain_5 : decode cX2_entriesInChain 5 = .ok (.iconst 1, 1) := by decide +kernel
theorem dX2_entriesInChain_6 : decode cX2_entriesInChain 6 = .ok (.isub, 1) := by decide +kernel
theorem dX2_entriesInChain_7 : decode cX2_entriesInChain 7 = .ok (.iconst 4, 1) := by decide +kernel
theorem dX2_entriesInChain_8 : decode cX2_entriesInChain 8 = .ok (.imul, 1) := by decide +kernel
theorem dX2_entriesInChain_9 : decode cX2_entriesInChain 9 = .ok (.aload_n 0, 1) := by decide +kernel
theorem dX2_entriesInChain_10 : decode cX2_entriesInChain 10 = .ok (.aload_n 0, 1) := by decide +kernel
theorem dX2_entriesInChain_11 : decode cX2_entriesInChain 11 = .ok (.iload_n 1, 1) := by decide +kernel
theorem dX2_entriesInChain_12 : decode cX2_entriesInChain 12 = .ok (.invokevirtual 76, 3) := by decide +kernel
theorem dX2_entriesInChain_15 : decode cX2_entriesInChain 15 = .ok (.invokevirtual 79, 3) := by decide +kernel
theorem dX2_entriesInChain_18 : decode cX2_entriesInChain 18 = .ok (.iadd, 1) := by decide +kernel
theorem dX2_entriesInChain_19 : decode cX2_entriesInChain 19 = .ok (.ireturn, 1) := by decide +kernel
theorem dX2_freePages_0 : decode cX2_freePages 0 = .ok (.iconst 0, 1) := by decide +kernel
theorem dX2_freePages_1 : decode cX2_freePages 1 = .ok (.istore_n 1, 1) := by decide +kernel
theorem dX2_freePages_2 : decode cX2_freePages 2 = .ok (.bipush 64, 2) := by decide +kernel
theorem dX2_freePages_4 : decode cX2_freePages 4 = .ok (.istore_n 2, 1) := by decide +kernel
theorem dX2_freePages_5 : decode cX2_freePages 5 = .ok (.iload_n 2, 1) := by decide +kernel
theorem dX2_freePages_6 : decode cX2_freePages 6 = .ok (.sipush 128, 3) := by decide +kernel
theorem dX2_freePages_9 : decode cX2_freePages 9 = .ok (.if_icmp .ge 23, 3) := by decide +kernel
theorem dX2_freePages_12 : decode cX2_freePages 12 = .ok (.aload_n 0, 1) := by decide +kernel
theorem dX2_freePages_13 : decode cX2_freePages 13 = .ok (.getfield 27, 3) := by decide +kernel
theorem dX2_freePages_16 : decode cX2_freePages 16 = .ok (.iload_n 2, 1) := by decide +kernel
theorem dX2_freePages_17 : decode cX2_freePages 17 = .ok (.iaload, 1) := by decide +kernel
theorem dX2_freePages_18 : decode cX2_freePages 18 = .ok (.ldc 37, 2) := by decide +kernel
theorem dX2_freePages_20 : decode cX2_freePages 20 = .ok (.if_icmp .ne 6, 3) := by decide +kernel
theorem dX2_freePages_23 : decode cX2_freePages 23 = .ok (.iinc 1 1, 3) := by decide +kernel
theorem dX2_freePages_26 : decode cX2_freePages 26 = .ok (.iinc 2 1, 3) := by decide +kernel
theorem dX2_freePages_29 : decode cX2_freePages 29 = .ok (.goto (-24), 3) := by decide +kernel
theorem dX2_freePages_32 : decode cX2_freePages 32 = .ok (.iload_n 1, 1) := by decide +kernel
theorem dX2_freePages_33 : decode cX2_freePages 33 = .ok (.ireturn, 1) := by decide +kernel
set_option maxRecDepth 20000 in
theorem ggX2_longestChain_X2_bucketCount : GoodIn wsX2_longestChain wsX2_bucketCount := goodIn_r _ [9, 10, 11, 20, 21, 22, 23, 24, 25, 26, 27, 28, 29, 30] (by decide +kernel) (by decide +kernel)
set_option maxRecDepth 20000 in
theorem gX2_longestChain_X2_bucketCount : GoodIn wsX2_longestChain (wsV RX2 65 RX2 yX2_bucketCount wsX2_bucketCount) := goodIn_app (goodIn_of _ (by decide +kernel)) ggX2_longestChain_X2_bucketCount
set_option maxRecDepth 20000 in
theorem ggX2_longestChain_X2_pagesInChain : GoodIn wsX2_longestChain wsX2_pagesInChain := goodIn_r _ [15, 16, 17, 18, 19, 20, 21, 22, 23, 24, 25, 26, 27, 28, 29, 30] (by decide +kernel) (by decide +kernel)
set_option maxRecDepth 20000 in
theorem gX2_longestChain_X2_pagesInChain : GoodIn wsX2_longestChain (wsV RX2 72 RX2 yX2_pagesInChain wsX2_pagesInChain) := goodIn_app (goodIn_of _ (by decide +kernel)) ggX2_longestChain_X2_pagesInChain
theorem dX2_longestChain_0 : decode cX2_longestChain 0 = .ok (.iconst 0, 1) := by decide +kernel
theorem dX2_longestChain_1 : decode cX2_longestChain 1 = .ok (.istore_n 1, 1) := by decide +kernel
theorem dX2_longestChain_2 : decode cX2_longestChain 2 = .ok (.iconst 0, 1) := by decide +kernel
theorem dX2_longestChain_3 : decode cX2_longestChain 3 = .ok (.istore_n 2, 1) := by decide +kernel
theorem dX2_longestChain_4 : decode cX2_longestChain 4 = .ok (.iload_n 2, 1) := by decide +kernel
theorem dX2_longestChain_5 : decode cX2_longestChain 5 = .ok (.aload_n 0, 1) := by decide +kernel
theorem dX2_longestChain_6 : decode cX2_longestChain 6 = .ok (.invokevirtual 65, 3) := by decide +kernel
theorem dX2_longestChain_9 : decode cX2_longestChain 9 = .ok (.if_icmp .ge 19, 3) := by decide +kernel
theorem dX2_longestChain_12 : decode cX2_longestChain 12 = .ok (.iload_n 1, 1) := by decide +kernel
theorem dX2_longestChain_13 : decode cX2_longestChain 13 = .ok (.aload_n 0, 1) := by decide +kernel
theorem dX2_longestChain_14 : decode cX2_longestChain 14 = .ok (.iload_n 2, 1) := by decide +kernel
theorem dX2_longestChain_15 : decode cX2_longestChain 15 = .ok (.invokevirtual 72, 3) := by decide +kernel
theorem dX2_longestChain_18 : decode cX2_longestChain 18 = .ok (.invokestatic 82, 3) := by decide +kernel
theorem dX2_longestChain_21 : decode cX2_longestChain 21 = .ok (.istore_n 1, 1) := by decide +kernel
theorem dX2_longestChain_22 : decode cX2_longestChain 22 = .ok (.iinc 2 1, 3) := by decide +kernel
theorem dX2_longestChain_25 : decode cX2_longestChain 25 = .ok (.goto (-21), 3) := by decide +kernel
theorem dX2_longestChain_28 : decode cX2_longestChain 28 = .ok (.iload_n 1, 1) := by decide +kernel
theorem dX2_longestChain_29 : decode cX2_longestChain 29 = .ok (.ireturn, 1) := by decide +kernel
set_option maxRecDepth 20000 in
theorem ggX2_effortForAll_X2_bucketCount : GoodIn wsX2_effortForAll wsX2_bucketCount := goodIn_r _ [7, 8, 9, 13, 14, 15, 16, 17, 18, 19, 20, 21, 22, 23] (by decide +kernel) (by decide +kernel)
set_option maxRecDepth 20000 in
theorem gX2_effortForAll_X2_bucketCount : GoodIn wsX2_effortForAll (wsV RX2 65 RX2 yX2_bucketCount wsX2_bucketCount) := goodIn_app (goodIn_of _ (by decide +kernel)) ggX2_effortForAll_X2_bucketCount
set_option maxRecDepth 20000 in
theorem ggX2_effortForAll_X3_isPage : GoodIn wsX2_effortForAll wsX3_isPage := goodIn_r _ [12] (by decide +kernel) (by decide +kernel)
set_option maxRecDepth 20000 in
theorem gX2_effortForAll_X3_isPage_n61 : GoodIn wsX2_effortForAll (wsX3_isPage) := ggX2_effortForAll_X3_isPage
theorem dX2_effortForAll_0 : decode cX2_effortForAll 0 = .ok (.iconst 0, 1) := by decide +kernel
theorem dX2_effortForAll_1 : decode cX2_effortForAll 1 = .ok (.istore_n 1, 1) := by decide +kernel
theorem dX2_effortForAll_2 : decode cX2_effortForAll 2 = .ok (.iconst 0, 1) := by decide +kernel
theorem dX2_effortForAll_3 : decode cX2_effortForAll 3 = .ok (.istore_n 2, 1) := by decide +kernel
theorem dX2_effortForAll_4 : decode cX2_effortForAll 4 = .ok (.iload_n 2, 1) := by decide +kernel
theorem dX2_effortForAll_5 : decode cX2_effortForAll 5 = .ok (.aload_n 0, 1) := by decide +kernel
theorem dX2_effortForAll_6 : decode cX2_effortForAll 6 = .ok (.invokevirtual 65, 3) := by decide +kernel
theorem dX2_effortForAll_9 : decode cX2_effortForAll 9 = .ok (.if_icmp .ge 54, 3) := by decide +kernel
theorem dX2_effortForAll_12 : decode cX2_effortForAll 12 = .ok (.iload_n 2, 1) := by decide +kernel
theorem dX2_effortForAll_13 : decode cX2_effortForAll 13 = .ok (.istore_n 3, 1) := by decide +kernel
theorem dX2_effortForAll_14 : decode cX2_effortForAll 14 = .ok (.iconst 1, 1) := by decide +kernel
theorem dX2_effortForAll_15 : decode cX2_effortForAll 15 = .ok (.istore 4, 2) := by decide +kernel
theorem dX2_effortForAll_17 : decode cX2_effortForAll 17 = .ok (.iload 4, 2) := by decide +kernel
theorem dX2_effortForAll_19 : decode cX2_effortForAll 19 = .ok (.sipush 128, 3) := by decide +kernel
theorem dX2_effortForAll_22 : decode cX2_effortForAll 22 = .ok (.if_icmp .gt 35, 3) := by decide +kernel
theorem dX2_effortForAll_25 : decode cX2_effortForAll 25 = .ok (.iload_n 3, 1) := by decide +kernel
theorem dX2_effortForAll_26 : decode cX2_effortForAll 26 = .ok (.invokestatic 61, 3) := by decide +kernel
theorem dX2_effortForAll_29 : decode cX2_effortForAll 29 = .ok (.ifCond .eq 28, 3) := by decide +kernel
theorem dX2_effortForAll_32 : decode cX2_effortForAll 32 = .ok (.iload_n 1, 1) := by decide +kernel
theorem dX2_effortForAll_33 : decode cX2_effortForAll 33 = .ok (.iload 4, 2) := by decide +kernel
theorem dX2_effortForAll_35 : decode cX2_effortForAll 35 = .ok (.aload_n 0, 1) := by decide +kernel
theorem dX2_effortForAll_36 : decode cX2_effortForAll 36 = .ok (.getfield 18, 3) := by decide +kernel
theorem dX2_effortForAll_39 : decode cX2_effortForAll 39 = .ok (.iload_n 3, 1) := by decide +kernel
theorem dX2_effortForAll_40 : decode cX2_effortForAll 40 = .ok (.iaload, 1) := by decide +kernel
theorem dX2_effortForAll_41 : decode cX2_effortForAll 41 = .ok (.imul, 1) := by decide +kernel
theorem dX2_effortForAll_42 : decode cX2_effortForAll 42 = .ok (.iadd, 1) := by decide +kernel
theorem dX2_effortForAll_43 : decode cX2_effortForAll 43 = .ok (.istore_n 1, 1) := by decide +kernel
theorem dX2_effortForAll_44 : decode cX2_effortForAll 44 = .ok (.aload_n 0, 1) := by decide +kernel
theorem dX2_effortForAll_45 : decode cX2_effortForAll 45 = .ok (.getfield 21, 3) := by decide +kernel
theorem dX2_effortForAll_48 : decode cX2_effortForAll 48 = .ok (.iload_n 3, 1) := by decide +kernel
theorem dX2_effortForAll_49 : decode cX2_effortForAll 49 = .ok (.iaload, 1) := by decide +kernel
theorem dX2_effortForAll_50 : decode cX2_effortForAll 50 = .ok (.istore_n 3, 1) := by decide +kernel
theorem dX2_effortForAll_51 : decode cX2_effortForAll 51 = .ok (.iinc 4 1, 3) := by decide +kernel
theorem dX2_effortForAll_54 : decode cX2_effortForAll 54 = .ok (.goto (-37), 3) := by decide +kernel
theorem dX2_effortForAll_57 : decode cX2_effortForAll 57 = .ok (.iinc 2 1, 3) := by decide +kernel
theorem dX2_effortForAll_60 : decode cX2_effortForAll 60 = .ok (.goto (-56), 3) := by decide +kernel
theorem dX2_effortForAll_63 : decode cX2_effortForAll 63 = .ok (.iload_n 1, 1) := by decide +kernel
theorem dX2_effortForAll_64 : decode cX2_effortForAll 64 = .ok (.ireturn, 1) := by decide +kernel
set_option maxRecDepth 20000 in
theorem ggX2_cellOfEntry_X2_bucketCount : GoodIn wsX2_cellOfEntry wsX2_bucketCount := goodIn_r _ [8, 9, 10, 14, 15, 16, 17, 18, 19, 20, 21, 22, 23, 24] (by decide +kernel) (by decide +kernel)
set_option maxRecDepth 20000 in
theorem gX2_cellOfEntry_X2_bucketCount : GoodIn wsX2_cellOfEntry (wsV RX2 65 RX2 yX2_bucketCount wsX2_bucketCount) := goodIn_app (goodIn_of _ (by decide +kernel)) ggX2_cellOfEntry_X2_bucketCount
set_option maxRecDepth 20000 in
theorem ggX2_cellOfEntry_X3_isPage : GoodIn wsX2_cellOfEntry wsX3_isPage := goodIn_r _ [13] (by decide +kernel) (by decide +kernel)
set_option maxRecDepth 20000 in
theorem gX2_cellOfEntry_X3_isPage_n61 : GoodIn wsX2_cellOfEntry (wsX3_isPage) := ggX2_cellOfEntry_X3_isPage
theorem dX2_cellOfEntry_0 : decode cX2_cellOfEntry 0 = .ok (.iload_n 1, 1) := by decide +kernel
theorem dX2_cellOfEntry_1 : decode cX2_cellOfEntry 1 = .ok (.istore_n 2, 1) := by decide +kernel
theorem dX2_cellOfEntry_2 : decode cX2_cellOfEntry 2 = .ok (.iconst 0, 1) := by decide +kernel
theorem dX2_cellOfEntry_3 : decode cX2_cellOfEntry 3 = .ok (.istore_n 3, 1) := by decide +kernel
theorem dX2_cellOfEntry_4 : decode cX2_cellOfEntry 4 = .ok (.iload_n 3, 1) := by decide +kernel
theorem dX2_cellOfEntry_5 : decode cX2_cellOfEntry 5 = .ok (.aload_n 0, 1) := by decide +kernel
theorem dX2_cellOfEntry_6 : decode cX2_cellOfEntry 6 = .ok (.invokevirtual 65, 3) := by decide +kernel
theorem dX2_cellOfEntry_9 : decode cX2_cellOfEntry 9 = .ok (.if_icmp .ge 74, 3) := by decide +kernel
theorem dX2_cellOfEntry_12 : decode cX2_cellOfEntry 12 = .ok (.iload_n 3, 1) := by decide +kernel
theorem dX2_cellOfEntry_13 : decode cX2_cellOfEntry 13 = .ok (.istore 4, 2) := by decide +kernel
theorem dX2_cellOfEntry_15 : decode cX2_cellOfEntry 15 = .ok (.iconst 0, 1) := by decide +kernel
theorem dX2_cellOfEntry_16 : decode cX2_cellOfEntry 16 = .ok (.istore 5, 2) := by decide +kernel
theorem dX2_cellOfEntry_18 : decode cX2_cellOfEntry 18 = .ok (.iload 5, 2) := by decide +kernel
theorem dX2_cellOfEntry_20 : decode cX2_cellOfEntry 20 = .ok (.sipush 128, 3) := by decide +kernel
theorem dX2_cellOfEntry_23 : decode cX2_cellOfEntry 23 = .ok (.if_icmp .ge 54, 3) := by decide +kernel
theorem dX2_cellOfEntry_26 : decode cX2_cellOfEntry 26 = .ok (.iload 4, 2) := by decide +kernel
theorem dX2_cellOfEntry_28 : decode cX2_cellOfEntry 28 = .ok (.invokestatic 61, 3) := by decide +kernel
theorem dX2_cellOfEntry_31 : decode cX2_cellOfEntry 31 = .ok (.ifCond .eq 46, 3) := by decide +kernel
theorem dX2_cellOfEntry_34 : decode cX2_cellOfEntry 34 = .ok (.iload_n 2, 1) := by decide +kernel
theorem dX2_cellOfEntry_35 : decode cX2_cellOfEntry 35 = .ok (.aload_n 0, 1) := by decide +kernel
theorem dX2_cellOfEntry_36 : decode cX2_cellOfEntry 36 = .ok (.getfield 18, 3) := by decide +kernel
theorem dX2_cellOfEntry_39 : decode cX2_cellOfEntry 39 = .ok (.iload 4, 2) := by decide +kernel
theorem dX2_cellOfEntry_41 : decode cX2_cellOfEntry 41 = .ok (.iaload, 1) := by decide +kernel
theorem dX2_cellOfEntry_42 : decode cX2_cellOfEntry 42 = .ok (.if_icmp .ge 10, 3) := by decide +kernel
theorem dX2_cellOfEntry_45 : decode cX2_cellOfEntry 45 = .ok (.iload 4, 2) := by decide +kernel
theorem dX2_cellOfEntry_47 : decode cX2_cellOfEntry 47 = .ok (.iconst 4, 1) := by decide +kernel
theorem dX2_cellOfEntry_48 : decode cX2_cellOfEntry 48 = .ok (.imul, 1) := by decide +kernel
theorem dX2_cellOfEntry_49 : decode cX2_cellOfEntry 49 = .ok (.iload_n 2, 1) := by decide +kernel
theorem dX2_cellOfEntry_50 : decode cX2_cellOfEntry 50 = .ok (.iadd, 1) := by decide +kernel
theorem dX2_cellOfEntry_51 : decode cX2_cellOfEntry 51 = .ok (.ireturn, 1) := by decide +kernel
theorem dX2_cellOfEntry_52 : decode cX2_cellOfEntry 52 = .ok (.iload_n 2, 1) := by decide +kernel
theorem dX2_cellOfEntry_53 : decode cX2_cellOfEntry 53 = .ok (.aload_n 0, 1) := by decide +kernel
theorem dX2_cellOfEntry_54 : decode cX2_cellOfEntry 54 = .ok (.getfield 18, 3) := by decide +kernel
theorem dX2_cellOfEntry_57 : decode cX2_cellOfEntry 57 = .ok (.iload 4, 2) := by decide +kernel
theorem dX2_cellOfEntry_59 : decode cX2_cellOfEntry 59 = .ok (.iaload, 1) := by decide +kernel
theorem dX2_cellOfEntry_60 : decode cX2_cellOfEntry 60 = .ok (.isub, 1) := by decide +kernel
theorem dX2_cellOfEntry_61 : decode cX2_cellOfEntry 61 = .ok (.istore_n 2, 1) := by decide +kernel
theorem dX2_cellOfEntry_62 : decode cX2_cellOfEntry 62 = .ok (.aload_n 0, 1) := by decide +kernel
theorem dX2_cellOfEntry_63 : decode cX2_cellOfEntry 63 = .ok (.getfield 21, 3) := by decide +kernel
theorem dX2_cellOfEntry_66 : decode cX2_cellOfEntry 66 = .ok (.iload 4, 2) := by decide +kernel
theorem dX2_cellOfEntry_68 : decode cX2_cellOfEntry 68 = .ok (.iaload, 1) := by decide +kernel
theorem dX2_cellOfEntry_69 : decode cX2_cellOfEntry 69 = .ok (.istore 4, 2) := by decide +kernel
theorem dX2_cellOfEntry_71 : decode cX2_cellOfEntry 71 = .ok (.iinc 5 1, 3) := by decide +kernel
theorem dX2_cellOfEntry_74 : decode cX2_cellOfEntry 74 = .ok (.goto (-56), 3) := by decide +kernel
theorem dX2_cellOfEntry_77 : decode cX2_cellOfEntry 77 = .ok (.iinc 3 1, 3) := by decide +kernel
theorem dX2_cellOfEntry_80 : decode cX2_cellOfEntry 80 = .ok (.goto (-76), 3) := by decide +kernel
theorem dX2_cellOfEntry_83 : decode cX2_cellOfEntry 83 = .ok (.ldc 37, 2) := by decide +kernel
theorem dX2_cellOfEntry_85 : decode cX2_cellOfEntry 85 = .ok (.ireturn, 1) := by decide +kernel
set_option maxRecDepth 20000 in
theorem ggX2_find_X2_addressOf : GoodIn wsX2_find wsX2_addressOf := goodIn_r _ [9, 10, 11, 12, 16, 17, 18, 19, 20, 21, 22, 23, 24, 25, 26] (by decide +kernel) (by decide +kernel)
set_option maxRecDepth 20000 in
theorem gX2_find_X2_addressOf : GoodIn wsX2_find (wsV RX2 88 RX2 yX2_addressOf wsX2_addressOf) := goodIn_app (goodIn_of _ (by decide +kernel)) ggX2_find_X2_addressOf
set_option maxRecDepth 20000 in
theorem ggX2_find_X3_isPage : GoodIn wsX2_find wsX3_isPage := goodIn_r _ [15] (by decide +kernel) (by decide +kernel)
set_option maxRecDepth 20000 in
theorem gX2_find_X3_isPage_n61 : GoodIn wsX2_find (wsX3_isPage) := ggX2_find_X3_isPage
theorem dX2_find_0 : decode cX2_find 0 = .ok (.aload_n 0, 1) := by decide +kernel
theorem dX2_find_1 : decode cX2_find 1 = .ok (.iload_n 1, 1) := by decide +kernel
theorem dX2_find_2 : decode cX2_find 2 = .ok (.invokevirtual 88, 3) := by decide +kernel
theorem dX2_find_5 : decode cX2_find 5 = .ok (.istore_n 2, 1) := by decide +kernel
theorem dX2_find_6 : decode cX2_find 6 = .ok (.iconst 0, 1) := by decide +kernel
theorem dX2_find_7 : decode cX2_find 7 = .ok (.istore_n 3, 1) := by decide +kernel
theorem dX2_find_8 : decode cX2_find 8 = .ok (.iload_n 3, 1) := by decide +kernel
theorem dX2_find_9 : decode cX2_find 9 = .ok (.sipush 128, 3) := by decide +kernel
theorem dX2_find_12 : decode cX2_find 12 = .ok (.if_icmp .ge 71, 3) := by decide +kernel
theorem dX2_find_15 : decode cX2_find 15 = .ok (.iload_n 2, 1) := by decide +kernel
theorem dX2_find_16 : decode cX2_find 16 = .ok (.invokestatic 61, 3) := by decide +kernel
theorem dX2_find_19 : decode cX2_find 19 = .ok (.ifCond .eq 64, 3) := by decide +kernel
theorem dX2_find_22 : decode cX2_find 22 = .ok (.iconst 0, 1) := by decide +kernel
theorem dX2_find_23 : decode cX2_find 23 = .ok (.istore 4, 2) := by decide +kernel
theorem dX2_find_25 : decode cX2_find 25 = .ok (.iload 4, 2) := by decide +kernel
theorem dX2_find_27 : decode cX2_find 27 = .ok (.iconst 4, 1) := by decide +kernel
theorem dX2_find_28 : decode cX2_find 28 = .ok (.if_icmp .ge 42, 3) := by decide +kernel
theorem dX2_find_31 : decode cX2_find 31 = .ok (.iload 4, 2) := by decide +kernel
theorem dX2_find_33 : decode cX2_find 33 = .ok (.aload_n 0, 1) := by decide +kernel
theorem dX2_find_34 : decode cX2_find 34 = .ok (.getfield 18, 3) := by decide +kernel
theorem dX2_find_37 : decode cX2_find 37 = .ok (.iload_n 2, 1) := by decide +kernel
theorem dX2_find_38 : decode cX2_find 38 = .ok (.iaload, 1) := by decide +kernel
theorem dX2_find_39 : decode cX2_find 39 = .ok (.if_icmp .ge 31, 3) := by decide +kernel
theorem dX2_find_42 : decode cX2_find 42 = .ok (.aload_n 0, 1) := by decide +kernel
theorem dX2_find_43 : decode cX2_find 43 = .ok (.getfield 9, 3) := by decide +kernel
theorem dX2_find_46 : decode cX2_find 46 = .ok (.iload_n 2, 1) := by decide +kernel
theorem dX2_find_47 : decode cX2_find 47 = .ok (.iconst 4, 1) := by decide +kernel
theorem dX2_find_48 : decode cX2_find 48 = .ok (.imul, 1) := by decide +kernel
theorem dX2_find_49 : decode cX2_find 49 = .ok (.iload 4, 2) := by decide +kernel
theorem dX2_find_51 : decode cX2_find 51 = .ok (.iadd, 1) := by decide +kernel
theorem dX2_find_52 : decode cX2_find 52 = .ok (.iaload, 1) := by decide +kernel
theorem dX2_find_53 : decode cX2_find 53 = .ok (.iload_n 1, 1) := by decide +kernel
theorem dX2_find_54 : decode cX2_find 54 = .ok (.if_icmp .ne 10, 3) := by decide +kernel
theorem dX2_find_57 : decode cX2_find 57 = .ok (.iload_n 2, 1) := by decide +kernel
theorem dX2_find_58 : decode cX2_find 58 = .ok (.iconst 4, 1) := by decide +kernel
theorem dX2_find_59 : decode cX2_find 59 = .ok (.imul, 1) := by decide +kernel
theorem dX2_find_60 : decode cX2_find 60 = .ok (.iload 4, 2) := by decide +kernel
theorem dX2_find_62 : decode cX2_find 62 = .ok (.iadd, 1) := by decide +kernel
theorem dX2_find_63 : decode cX2_find 63 = .ok (.ireturn, 1) := by decide +kernel
theorem dX2_find_64 : decode cX2_find 64 = .ok (.iinc 4 1, 3) := by decide +kernel
theorem dX2_find_67 : decode cX2_find 67 = .ok (.goto (-42), 3) := by decide +kernel
theorem dX2_find_70 : decode cX2_find 70 = .ok (.aload_n 0, 1) := by decide +kernel
theorem dX2_find_71 : decode cX2_find 71 = .ok (.getfield 21, 3) := by decide +kernel
theorem dX2_find_74 : decode cX2_find 74 = .ok (.iload_n 2, 1) := by decide +kernel
theorem dX2_find_75 : decode cX2_find 75 = .ok (.iaload, 1) := by decide +kernel
theorem dX2_find_76 : decode cX2_find 76 = .ok (.istore_n 2, 1) := by decide +kernel
theorem dX2_find_77 : decode cX2_find 77 = .ok (.iinc 3 1, 3) := by decide +kernel
theorem dX2_find_80 : decode cX2_find 80 = .ok (.goto (-72), 3) := by decide +kernel
theorem dX2_find_83 : decode cX2_find 83 = .ok (.ldc 37, 2) := by decide +kernel
theorem dX2_find_85 : decode cX2_find 85 = .ok (.ireturn, 1) := by decide +kernel
set_option maxRecDepth 20000 in
theorem ggX2_pagesLookedAt_X2_addressOf : GoodIn wsX2_pagesLookedAt wsX2_addressOf := goodIn_r _ [7, 8, 9, 10, 14, 15, 16, 17, 18, 19, 20, 21, 22, 23, 24] (by decide +kernel) (by decide +kernel)
set_option maxRecDepth 20000 in
theorem gX2_pagesLookedAt_X2_addressOf : GoodIn wsX2_pagesLookedAt (wsV RX2 88 RX2 yX2_addressOf wsX2_addressOf) := goodIn_app (goodIn_of _ (by decide +kernel)) ggX2_pagesLookedAt_X2_addressOf
set_option maxRecDepth 20000 in
theorem ggX2_pagesLookedAt_X3_isPage : GoodIn wsX2_pagesLookedAt wsX3_isPage := goodIn_r _ [13] (by decide +kernel) (by decide +kernel)
set_option maxRecDepth 20000 in
theorem gX2_pagesLookedAt_X3_isPage_n61 : GoodIn wsX2_pagesLookedAt (wsX3_isPage) := ggX2_pagesLookedAt_X3_isPage
theorem dX2_pagesLookedAt_0 : decode cX2_pagesLookedAt 0 = .ok (.aload_n 0, 1) := by decide +kernel
theorem dX2_pagesLookedAt_1 : decode cX2_pagesLookedAt 1 = .ok (.iload_n 1, 1) := by decide +kernel
theorem dX2_pagesLookedAt_2 : decode cX2_pagesLookedAt 2 = .ok (.invokevirtual 88, 3) := by decide +kernel
theorem dX2_pagesLookedAt_5 : decode cX2_pagesLookedAt 5 = .ok (.istore_n 3, 1) := by decide +kernel
theorem dX2_pagesLookedAt_6 : decode cX2_pagesLookedAt 6 = .ok (.iconst 0, 1) := by decide +kernel
theorem dX2_pagesLookedAt_7 : decode cX2_pagesLookedAt 7 = .ok (.istore 4, 2) := by decide +kernel
theorem dX2_pagesLookedAt_9 : decode cX2_pagesLookedAt 9 = .ok (.iload 4, 2) := by decide +kernel
theorem dX2_pagesLookedAt_11 : decode cX2_pagesLookedAt 11 = .ok (.sipush 128, 3) := by decide +kernel
theorem dX2_pagesLookedAt_14 : decode cX2_pagesLookedAt 14 = .ok (.if_icmp .ge 39, 3) := by decide +kernel
theorem dX2_pagesLookedAt_17 : decode cX2_pagesLookedAt 17 = .ok (.iload_n 3, 1) := by decide +kernel
theorem dX2_pagesLookedAt_18 : decode cX2_pagesLookedAt 18 = .ok (.invokestatic 61, 3) := by decide +kernel
theorem dX2_pagesLookedAt_21 : decode cX2_pagesLookedAt 21 = .ok (.ifCond .eq 32, 3) := by decide +kernel
theorem dX2_pagesLookedAt_24 : decode cX2_pagesLookedAt 24 = .ok (.iinc 4 1, 3) := by decide +kernel
theorem dX2_pagesLookedAt_27 : decode cX2_pagesLookedAt 27 = .ok (.iload_n 2, 1) := by decide +kernel
theorem dX2_pagesLookedAt_28 : decode cX2_pagesLookedAt 28 = .ok (.ldc 37, 2) := by decide +kernel
theorem dX2_pagesLookedAt_30 : decode cX2_pagesLookedAt 30 = .ok (.if_icmp .eq 13, 3) := by decide +kernel
theorem dX2_pagesLookedAt_33 : decode cX2_pagesLookedAt 33 = .ok (.iload_n 3, 1) := by decide +kernel
theorem dX2_pagesLookedAt_34 : decode cX2_pagesLookedAt 34 = .ok (.iload_n 2, 1) := by decide +kernel
theorem dX2_pagesLookedAt_35 : decode cX2_pagesLookedAt 35 = .ok (.iconst 4, 1) := by decide +kernel
theorem dX2_pagesLookedAt_36 : decode cX2_pagesLookedAt 36 = .ok (.idiv, 1) := by decide +kernel
theorem dX2_pagesLookedAt_37 : decode cX2_pagesLookedAt 37 = .ok (.if_icmp .ne 6, 3) := by decide +kernel
theorem dX2_pagesLookedAt_40 : decode cX2_pagesLookedAt 40 = .ok (.iload 4, 2) := by decide +kernel
theorem dX2_pagesLookedAt_42 : decode cX2_pagesLookedAt 42 = .ok (.ireturn, 1) := by decide +kernel
theorem dX2_pagesLookedAt_43 : decode cX2_pagesLookedAt 43 = .ok (.aload_n 0, 1) := by decide +kernel
theorem dX2_pagesLookedAt_44 : decode cX2_pagesLookedAt 44 = .ok (.getfield 21, 3) := by decide +kernel
theorem dX2_pagesLookedAt_47 : decode cX2_pagesLookedAt 47 = .ok (.iload_n 3, 1) := by decide +kernel
theorem dX2_pagesLookedAt_48 : decode cX2_pagesLookedAt 48 = .ok (.iaload, 1) := by decide +kernel
theorem dX2_pagesLookedAt_49 : decode cX2_pagesLookedAt 49 = .ok (.istore_n 3, 1) := by decide +kernel
theorem dX2_pagesLookedAt_50 : decode cX2_pagesLookedAt 50 = .ok (.goto (-41), 3) := by decide +kernel
theorem dX2_pagesLookedAt_53 : decode cX2_pagesLookedAt 53 = .ok (.iload 4, 2) := by decide +kernel
theorem dX2_pagesLookedAt_55 : decode cX2_pagesLookedAt 55 = .ok (.ireturn, 1) := by decide +kernel
set_option maxRecDepth 20000 in
theorem ggX2_hasRoomFor_X2_addressOf : GoodIn wsX2_hasRoomFor wsX2_addressOf := goodIn_r _ [6, 7, 8, 9, 31, 32, 33, 34, 35, 36, 37, 38, 39, 40, 41] (by decide +kernel) (by decide +kernel)
set_option maxRecDepth 20000 in
theorem gX2_hasRoomFor_X2_addressOf : GoodIn wsX2_hasRoomFor (wsV RX2 88 RX2 yX2_addressOf wsX2_addressOf) := goodIn_app (goodIn_of _ (by decide +kernel)) ggX2_hasRoomFor_X2_addressOf
set_option maxRecDepth 20000 in
theorem ggX2_hasRoomFor_X2_lastPage : GoodIn wsX2_hasRoomFor wsX2_lastPage := goodIn_r _ [13, 14, 1, 15, 16, 5, 17, 31, 32, 33, 34, 35, 36, 37, 38, 39, 40, 41] (by decide +kernel) (by decide +kernel)
set_option maxRecDepth 20000 in
theorem gX2_hasRoomFor_X2_lastPage : GoodIn wsX2_hasRoomFor (wsV RX2 76 RX2 yX2_lastPage wsX2_lastPage) := goodIn_app (goodIn_of _ (by decide +kernel)) ggX2_hasRoomFor_X2_lastPage
set_option maxRecDepth 20000 in
theorem ggX2_hasRoomFor_X2_entriesOnPage : GoodIn wsX2_hasRoomFor wsX2_entriesOnPage := goodIn_r _ [21, 22, 23, 24, 25, 31, 32, 33, 34, 35, 36, 37, 38, 39, 40, 41] (by decide +kernel) (by decide +kernel)
set_option maxRecDepth 20000 in
theorem gX2_hasRoomFor_X2_entriesOnPage : GoodIn wsX2_hasRoomFor (wsV RX2 79 RX2 yX2_entriesOnPage wsX2_entriesOnPage) := goodIn_app (goodIn_of _ (by decide +kernel)) ggX2_hasRoomFor_X2_entriesOnPage
set_option maxRecDepth 20000 in
theorem ggX2_hasRoomFor_X2_leastFreePage : GoodIn wsX2_hasRoomFor wsX2_leastFreePage := goodIn_r _ [29, 30, 1, 31, 32, 33, 34, 35, 36, 37, 38, 39, 40, 41] (by decide +kernel) (by decide +kernel)
set_option maxRecDepth 20000 in
theorem gX2_hasRoomFor_X2_leastFreePage : GoodIn wsX2_hasRoomFor (wsV RX2 91 RX2 yX2_leastFreePage wsX2_leastFreePage) := goodIn_app (goodIn_of _ (by decide +kernel)) ggX2_hasRoomFor_X2_leastFreePage
theorem dX2_hasRoomFor_0 : decode cX2_hasRoomFor 0 = .ok (.aload_n 0, 1) := by decide +kernel
theorem dX2_hasRoomFor_1 : decode cX2_hasRoomFor 1 = .ok (.aload_n 0, 1) := by decide +kernel
theorem dX2_hasRoomFor_2 : decode cX2_hasRoomFor 2 = .ok (.aload_n 0, 1) := by decide +kernel
theorem dX2_hasRoomFor_3 : decode cX2_hasRoomFor 3 = .ok (.iload_n 1, 1) := by decide +kernel
theorem dX2_hasRoomFor_4 : decode cX2_hasRoomFor 4 = .ok (.invokevirtual 88, 3) := by decide +kernel
theorem dX2_hasRoomFor_7 : decode cX2_hasRoomFor 7 = .ok (.invokevirtual 76, 3) := by decide +kernel
theorem dX2_hasRoomFor_10 : decode cX2_hasRoomFor 10 = .ok (.invokevirtual 79, 3) := by decide +kernel
theorem dX2_hasRoomFor_13 : decode cX2_hasRoomFor 13 = .ok (.iconst 4, 1) := by decide +kernel
theorem dX2_hasRoomFor_14 : decode cX2_hasRoomFor 14 = .ok (.if_icmp .lt 12, 3) := by decide +kernel
theorem dX2_hasRoomFor_17 : decode cX2_hasRoomFor 17 = .ok (.aload_n 0, 1) := by decide +kernel
theorem dX2_hasRoomFor_18 : decode cX2_hasRoomFor 18 = .ok (.invokevirtual 91, 3) := by decide +kernel
theorem dX2_hasRoomFor_21 : decode cX2_hasRoomFor 21 = .ok (.ldc 37, 2) := by decide +kernel
theorem dX2_hasRoomFor_23 : decode cX2_hasRoomFor 23 = .ok (.if_icmp .eq 7, 3) := by decide +kernel
theorem dX2_hasRoomFor_26 : decode cX2_hasRoomFor 26 = .ok (.iconst 1, 1) := by decide +kernel
theorem dX2_hasRoomFor_27 : decode cX2_hasRoomFor 27 = .ok (.goto 4, 3) := by decide +kernel
theorem dX2_hasRoomFor_30 : decode cX2_hasRoomFor 30 = .ok (.iconst 0, 1) := by decide +kernel
theorem dX2_hasRoomFor_31 : decode cX2_hasRoomFor 31 = .ok (.ireturn, 1) := by decide +kernel
set_option maxRecDepth 20000 in
theorem ggX2_carryOut_X2_find : GoodIn wsX2_carryOut wsX2_find := goodIn_r _ [7, 8, 9, 10, 1, 11, 12, 13, 6, 14, 15, 16, 17, 18, 19, 20, 108, 109, 110, 111, 112, 113, 114, 115, 116, 117, 118] (by decide +kernel) (by decide +kernel)
set_option maxRecDepth 20000 in
theorem gX2_carryOut_X2_find : GoodIn wsX2_carryOut (wsV RX2 94 RX2 yX2_find wsX2_find) := goodIn_app (goodIn_of _ (by decide +kernel)) ggX2_carryOut_X2_find
set_option maxRecDepth 20000 in
theorem ggX2_carryOut_X2_addressOf : GoodIn wsX2_carryOut wsX2_addressOf := goodIn_r _ [14, 15, 16, 17, 108, 109, 110, 111, 112, 113, 114, 115, 116, 117, 118] (by decide +kernel) (by decide +kernel)
set_option maxRecDepth 20000 in
theorem gX2_carryOut_X2_addressOf : GoodIn wsX2_carryOut (wsV RX2 88 RX2 yX2_addressOf wsX2_addressOf) := goodIn_app (goodIn_of _ (by decide +kernel)) ggX2_carryOut_X2_addressOf
set_option maxRecDepth 20000 in
theorem ggX2_carryOut_X2_append : GoodIn wsX2_carryOut wsX2_append := goodIn_r _ [24, 8, 9, 25, 2, 26, 27, 28, 6, 29, 30, 1, 31, 32, 33, 34, 35, 36, 37, 18, 19, 20, 38, 39, 40, 41, 10, 42, 43, 44, 45, 46, 47, 108, 109, 110, 111, 112, 113, 114, 115, 116, 117, 118] (by decide +kernel) (by decide +kernel)
set_option maxRecDepth 20000 in
theorem gX2_carryOut_X2_append : GoodIn wsX2_carryOut (wsV RX2 97 RX2 yX2_append wsX2_append) := goodIn_app (goodIn_of _ (by decide +kernel)) ggX2_carryOut_X2_append
set_option maxRecDepth 20000 in
theorem ggX2_carryOut_X2_bucketCount : GoodIn wsX2_carryOut wsX2_bucketCount := goodIn_r _ [51, 16, 17, 108, 109, 110, 111, 112, 113, 114, 115, 116, 117, 118] (by decide +kernel) (by decide +kernel)
set_option maxRecDepth 20000 in
theorem gX2_carryOut_X2_bucketCount : GoodIn wsX2_carryOut (wsV RX2 65 RX2 yX2_bucketCount wsX2_bucketCount) := goodIn_app (goodIn_of _ (by decide +kernel)) ggX2_carryOut_X2_bucketCount
set_option maxRecDepth 20000 in
theorem ggX2_carryOut_X2_grow : GoodIn wsX2_carryOut wsX2_grow := goodIn_r _ [55, 56, 57, 17, 16, 58, 59, 60, 61, 62, 6, 63, 8, 9, 25, 2, 10, 30, 31, 32, 33, 18, 19, 20, 64, 65, 66, 67, 68, 69, 70, 71, 72, 73, 74, 75, 1, 42, 43, 11, 12, 13, 14, 15, 21, 22, 23, 24, 26, 27, 28, 29, 34, 35, 36, 37, 38, 39, 40, 41, 44, 45, 46, 47, 108, 109, 110, 111, 112, 113, 114, 115, 116, 117, 118, 119, 120, 121] (by decide +kernel) (by decide +kernel)
set_option maxRecDepth 20000 in
theorem gX2_carryOut_X2_grow : GoodIn wsX2_carryOut (wsV RX2 101 RX2 yX2_grow wsX2_grow) := goodIn_app (goodIn_of _ (by decide +kernel)) ggX2_carryOut_X2_grow
set_option maxRecDepth 20000 in
theorem ggX2_carryOut_X2_setValue : GoodIn wsX2_carryOut wsX2_setValue := goodIn_r _ [79, 25, 108, 109, 110, 111, 112, 113, 114, 115, 116, 117, 118] (by decide +kernel) (by decide +kernel)
set_option maxRecDepth 20000 in
theorem gX2_carryOut_X2_setValue : GoodIn wsX2_carryOut (wsV RX2 104 RX2 yX2_setValue wsX2_setValue) := goodIn_app (goodIn_of _ (by decide +kernel)) ggX2_carryOut_X2_setValue
set_option maxRecDepth 20000 in
theorem ggX2_carryOut_X2_takeOut : GoodIn wsX2_carryOut wsX2_takeOut := goodIn_r _ [83, 9, 8, 25, 2, 26, 27, 28, 6, 29, 30, 1, 31, 32, 33, 18, 19, 20, 84, 85, 86, 87, 42, 10, 72, 73, 74, 75, 43, 108, 109, 110, 111, 112, 113, 114, 115, 116, 117, 118] (by decide +kernel) (by decide +kernel)
set_option maxRecDepth 20000 in
theorem gX2_carryOut_X2_takeOut : GoodIn wsX2_carryOut (wsV RX2 108 RX2 yX2_takeOut wsX2_takeOut) := goodIn_app (goodIn_of _ (by decide +kernel)) ggX2_carryOut_X2_takeOut
set_option maxRecDepth 20000 in
theorem ggX2_carryOut_X2_shrink : GoodIn wsX2_carryOut wsX2_shrink := goodIn_r _ [91, 17, 16, 56, 57, 58, 59, 48, 49, 50, 6, 51, 92, 93, 94, 95, 96, 97, 98, 99, 100, 101, 102, 103, 10, 18, 19, 20, 26, 27, 28, 29, 30, 1, 31, 32, 33, 34, 35, 36, 37, 8, 104, 105, 106, 107, 43, 60, 61, 62, 63, 9, 25, 2, 64, 65, 66, 67, 68, 69, 70, 71, 72, 73, 74, 75, 42, 21, 22, 23, 24, 38, 39, 40, 41, 44, 45, 46, 47, 108, 109, 110, 111, 112, 113, 114, 115, 116, 117, 118, 119, 120, 121] (by decide +kernel) (by decide +kernel)
set_option maxRecDepth 20000 in
theorem gX2_carryOut_X2_shrink : GoodIn wsX2_carryOut (wsV RX2 111 RX2 yX2_shrink wsX2_shrink) := goodIn_app (goodIn_of _ (by decide +kernel)) ggX2_carryOut_X2_shrink
theorem dX2_carryOut_0 : decode cX2_carryOut 0 = .ok (.aload_n 0, 1) := by decide +kernel
theorem dX2_carryOut_1 : decode cX2_carryOut 1 = .ok (.iload_n 2, 1) := by decide +kernel
theorem dX2_carryOut_2 : decode cX2_carryOut 2 = .ok (.invokevirtual 94, 3) := by decide +kernel
theorem dX2_carryOut_5 : decode cX2_carryOut 5 = .ok (.istore 4, 2) := by decide +kernel
theorem dX2_carryOut_7 : decode cX2_carryOut 7 = .ok (.iload_n 1, 1) := by decide +kernel
theorem dX2_carryOut_8 : decode cX2_carryOut 8 = .ok (.ifCond .ne 50, 3) := by decide +kernel
theorem dX2_carryOut_11 : decode cX2_carryOut 11 = .ok (.iload 4, 2) := by decide +kernel
theorem dX2_carryOut_13 : decode cX2_carryOut 13 = .ok (.ldc 37, 2) := by decide +kernel
theorem dX2_carryOut_15 : decode cX2_carryOut 15 = .ok (.if_icmp .ne 43, 3) := by decide +kernel
theorem dX2_carryOut_18 : decode cX2_carryOut 18 = .ok (.aload_n 0, 1) := by decide +kernel
theorem dX2_carryOut_19 : decode cX2_carryOut 19 = .ok (.aload_n 0, 1) := by decide +kernel
theorem dX2_carryOut_20 : decode cX2_carryOut 20 = .ok (.iload_n 2, 1) := by decide +kernel
theorem dX2_carryOut_21 : decode cX2_carryOut 21 = .ok (.invokevirtual 88, 3) := by decide +kernel
theorem dX2_carryOut_24 : decode cX2_carryOut 24 = .ok (.iload_n 2, 1) := by decide +kernel
theorem dX2_carryOut_25 : decode cX2_carryOut 25 = .ok (.iload_n 3, 1) := by decide +kernel
theorem dX2_carryOut_26 : decode cX2_carryOut 26 = .ok (.invokevirtual 97, 3) := by decide +kernel
theorem dX2_carryOut_29 : decode cX2_carryOut 29 = .ok (.aload_n 0, 1) := by decide +kernel
theorem dX2_carryOut_30 : decode cX2_carryOut 30 = .ok (.getfield 57, 3) := by decide +kernel
theorem dX2_carryOut_33 : decode cX2_carryOut 33 = .ok (.iconst 3, 1) := by decide +kernel
theorem dX2_carryOut_34 : decode cX2_carryOut 34 = .ok (.aload_n 0, 1) := by decide +kernel
theorem dX2_carryOut_35 : decode cX2_carryOut 35 = .ok (.invokevirtual 65, 3) := by decide +kernel
theorem dX2_carryOut_38 : decode cX2_carryOut 38 = .ok (.imul, 1) := by decide +kernel
theorem dX2_carryOut_39 : decode cX2_carryOut 39 = .ok (.if_icmp .le 78, 3) := by decide +kernel
theorem dX2_carryOut_42 : decode cX2_carryOut 42 = .ok (.aload_n 0, 1) := by decide +kernel
theorem dX2_carryOut_43 : decode cX2_carryOut 43 = .ok (.invokevirtual 65, 3) := by decide +kernel
theorem dX2_carryOut_46 : decode cX2_carryOut 46 = .ok (.bipush 64, 2) := by decide +kernel
theorem dX2_carryOut_48 : decode cX2_carryOut 48 = .ok (.if_icmp .ge 69, 3) := by decide +kernel
theorem dX2_carryOut_51 : decode cX2_carryOut 51 = .ok (.aload_n 0, 1) := by decide +kernel
theorem dX2_carryOut_52 : decode cX2_carryOut 52 = .ok (.invokevirtual 101, 3) := by decide +kernel
theorem dX2_carryOut_55 : decode cX2_carryOut 55 = .ok (.goto 62, 3) := by decide +kernel
theorem dX2_carryOut_58 : decode cX2_carryOut 58 = .ok (.iload_n 1, 1) := by decide +kernel
theorem dX2_carryOut_59 : decode cX2_carryOut 59 = .ok (.ifCond .ne 13, 3) := by decide +kernel
theorem dX2_carryOut_62 : decode cX2_carryOut 62 = .ok (.aload_n 0, 1) := by decide +kernel
theorem dX2_carryOut_63 : decode cX2_carryOut 63 = .ok (.iload 4, 2) := by decide +kernel
theorem dX2_carryOut_65 : decode cX2_carryOut 65 = .ok (.iload_n 3, 1) := by decide +kernel
theorem dX2_carryOut_66 : decode cX2_carryOut 66 = .ok (.invokevirtual 104, 3) := by decide +kernel
theorem dX2_carryOut_69 : decode cX2_carryOut 69 = .ok (.goto 48, 3) := by decide +kernel
theorem dX2_carryOut_72 : decode cX2_carryOut 72 = .ok (.iload 4, 2) := by decide +kernel
theorem dX2_carryOut_74 : decode cX2_carryOut 74 = .ok (.ldc 37, 2) := by decide +kernel
theorem dX2_carryOut_76 : decode cX2_carryOut 76 = .ok (.if_icmp .eq 41, 3) := by decide +kernel
theorem dX2_carryOut_79 : decode cX2_carryOut 79 = .ok (.aload_n 0, 1) := by decide +kernel
theorem dX2_carryOut_80 : decode cX2_carryOut 80 = .ok (.aload_n 0, 1) := by decide +kernel
theorem dX2_carryOut_81 : decode cX2_carryOut 81 = .ok (.iload_n 2, 1) := by decide +kernel
theorem dX2_carryOut_82 : decode cX2_carryOut 82 = .ok (.invokevirtual 88, 3) := by decide +kernel
theorem dX2_carryOut_85 : decode cX2_carryOut 85 = .ok (.iload 4, 2) := by decide +kernel
theorem dX2_carryOut_87 : decode cX2_carryOut 87 = .ok (.invokevirtual 108, 3) := by decide +kernel
theorem dX2_carryOut_90 : decode cX2_carryOut 90 = .ok (.aload_n 0, 1) := by decide +kernel
theorem dX2_carryOut_91 : decode cX2_carryOut 91 = .ok (.invokevirtual 65, 3) := by decide +kernel
theorem dX2_carryOut_94 : decode cX2_carryOut 94 = .ok (.iconst 4, 1) := by decide +kernel
theorem dX2_carryOut_95 : decode cX2_carryOut 95 = .ok (.if_icmp .le 22, 3) := by decide +kernel
theorem dX2_carryOut_98 : decode cX2_carryOut 98 = .ok (.iconst 2, 1) := by decide +kernel
theorem dX2_carryOut_99 : decode cX2_carryOut 99 = .ok (.aload_n 0, 1) := by decide +kernel
theorem dX2_carryOut_100 : decode cX2_carryOut 100 = .ok (.getfield 57, 3) := by decide +kernel
theorem dX2_carryOut_103 : decode cX2_carryOut 103 = .ok (.imul, 1) := by decide +kernel
theorem dX2_carryOut_104 : decode cX2_carryOut 104 = .ok (.iconst 3, 1) := by decide +kernel
theorem dX2_carryOut_105 : decode cX2_carryOut 105 = .ok (.aload_n 0, 1) := by decide +kernel
theorem dX2_carryOut_106 : decode cX2_carryOut 106 = .ok (.invokevirtual 65, 3) := by decide +kernel
theorem dX2_carryOut_109 : decode cX2_carryOut 109 = .ok (.imul, 1) := by decide +kernel
theorem dX2_carryOut_110 : decode cX2_carryOut 110 = .ok (.if_icmp .ge 7, 3) := by decide +kernel
theorem dX2_carryOut_113 : decode cX2_carryOut 113 = .ok (.aload_n 0, 1) := by decide +kernel
theorem dX2_carryOut_114 : decode cX2_carryOut 114 = .ok (.invokevirtual 111, 3) := by decide +kernel
theorem dX2_carryOut_117 : decode cX2_carryOut 117 = .ok (.return_, 1) := by decide +kernel
theorem dX2_setValue_0 : decode cX2_setValue 0 = .ok (.iload_n 1, 1) := by decide +kernel
theorem dX2_setValue_1 : decode cX2_setValue 1 = .ok (.ifCond .lt 19, 3) := by decide +kernel
theorem dX2_setValue_4 : decode cX2_setValue 4 = .ok (.iload_n 1, 1) := by decide +kernel
theorem dX2_setValue_5 : decode cX2_setValue 5 = .ok (.aload_n 0, 1) := by decide +kernel
theorem dX2_setValue_6 : decode cX2_setValue 6 = .ok (.getfield 15, 3) := by decide +kernel
theorem dX2_setValue_9 : decode cX2_setValue 9 = .ok (.arraylength, 1) := by decide +kernel
theorem dX2_setValue_10 : decode cX2_setValue 10 = .ok (.if_icmp .ge 10, 3) := by decide +kernel
theorem dX2_setValue_13 : decode cX2_setValue 13 = .ok (.aload_n 0, 1) := by decide +kernel
theorem dX2_setValue_14 : decode cX2_setValue 14 = .ok (.getfield 15, 3) := by decide +kernel
theorem dX2_setValue_17 : decode cX2_setValue 17 = .ok (.iload_n 1, 1) := by decide +kernel
theorem dX2_setValue_18 : decode cX2_setValue 18 = .ok (.iload_n 2, 1) := by decide +kernel
theorem dX2_setValue_19 : decode cX2_setValue 19 = .ok (.iastore, 1) := by decide +kernel
theorem dX2_setValue_20 : decode cX2_setValue 20 = .ok (.return_, 1) := by decide +kernel
set_option maxRecDepth 20000 in
theorem ggX2_grow_X2_setAside : GoodIn wsX2_grow wsX2_setAside := goodIn_r _ [11, 12, 1, 13, 14, 15, 16, 17, 18, 19, 10, 20, 21, 22, 23, 24, 25, 26, 27, 28, 29, 30, 31, 32, 33, 34, 35, 36, 37, 38, 64, 65, 66, 67, 68, 69, 70, 71, 72, 73, 74, 75, 76, 77] (by decide +kernel) (by decide +kernel)
set_option maxRecDepth 20000 in
theorem gX2_grow_X2_setAside : GoodIn wsX2_grow (wsV RX2 119 RX2 yX2_setAside wsX2_setAside) := goodIn_app (goodIn_of _ (by decide +kernel)) ggX2_grow_X2_setAside
