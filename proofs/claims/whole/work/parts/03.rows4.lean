theorem dX4_takeOut_122 : decode cX4_takeOut 122 = .ok (.getfield 19, 3) := by decide +kernel
theorem dX4_takeOut_125 : decode cX4_takeOut 125 = .ok (.iload 5, 2) := by decide +kernel
theorem dX4_takeOut_127 : decode cX4_takeOut 127 = .ok (.iaload, 1) := by decide +kernel
theorem dX4_takeOut_128 : decode cX4_takeOut 128 = .ok (.iastore, 1) := by decide +kernel
theorem dX4_takeOut_129 : decode cX4_takeOut 129 = .ok (.aload_n 0, 1) := by decide +kernel
theorem dX4_takeOut_130 : decode cX4_takeOut 130 = .ok (.getfield 19, 3) := by decide +kernel
theorem dX4_takeOut_133 : decode cX4_takeOut 133 = .ok (.iload 5, 2) := by decide +kernel
theorem dX4_takeOut_135 : decode cX4_takeOut 135 = .ok (.iaload, 1) := by decide +kernel
theorem dX4_takeOut_136 : decode cX4_takeOut 136 = .ok (.istore 5, 2) := by decide +kernel
theorem dX4_takeOut_138 : decode cX4_takeOut 138 = .ok (.goto (-46), 3) := by decide +kernel
theorem dX4_takeOut_141 : decode cX4_takeOut 141 = .ok (.return_, 1) := by decide +kernel
set_option maxRecDepth 20000 in
theorem ggX4_write_X4_placeOf : GoodIn wsX4_write wsX4_placeOf := goodIn_r _ [8, 2, 9, 10, 11, 12, 13, 14, 7, 15, 16, 17, 18, 19, 20, 21, 22, 71, 72, 73, 74, 75, 76, 77, 78, 79, 80, 81, 82, 83, 84, 85, 86, 87, 88, 89, 90] (by decide +kernel) (by decide +kernel)
set_option maxRecDepth 20000 in
theorem gX4_write_X4_placeOf : GoodIn wsX4_write (wsV RX4 93 RX4 yX4_placeOf wsX4_placeOf) := goodIn_app (goodIn_of _ (by decide +kernel)) ggX4_write_X4_placeOf
set_option maxRecDepth 20000 in
theorem ggX4_write_X4_takeOut : GoodIn wsX4_write wsX4_takeOut := goodIn_r _ [26, 10, 9, 3, 27, 2, 11, 12, 13, 14, 7, 15, 16, 17, 18, 19, 20, 21, 22, 28, 29, 30, 31, 71, 72, 73, 74, 75, 76, 77, 78, 79, 80, 81, 82, 83, 84, 85, 86, 87, 88, 89, 90] (by decide +kernel) (by decide +kernel)
set_option maxRecDepth 20000 in
theorem gX4_write_X4_takeOut : GoodIn wsX4_write (wsV RX4 96 RX4 yX4_takeOut wsX4_takeOut) := goodIn_app (goodIn_of _ (by decide +kernel)) ggX4_write_X4_takeOut
set_option maxRecDepth 20000 in
theorem ggX4_write_X4_buckets : GoodIn wsX4_write wsX4_buckets := goodIn_r _ [35, 17, 18, 19, 20, 7, 21, 22, 71, 72, 73, 74, 75, 76, 77, 78, 79, 80, 81, 82, 83, 84, 85, 86, 87, 88, 89, 90] (by decide +kernel) (by decide +kernel)
set_option maxRecDepth 20000 in
theorem gX4_write_X4_buckets : GoodIn wsX4_write (wsV RX4 81 RX4 yX4_buckets wsX4_buckets) := goodIn_app (goodIn_of _ (by decide +kernel)) ggX4_write_X4_buckets
set_option maxRecDepth 20000 in
theorem ggX4_write_X4_shrink : GoodIn wsX4_write wsX4_shrink := goodIn_r _ [39, 17, 22, 40, 32, 33, 34, 7, 35, 18, 19, 20, 21, 41, 42, 43, 44, 2, 9, 11, 45, 46, 47, 48, 27, 49, 50, 51, 52, 53, 54, 55, 56, 57, 10, 58, 3, 59, 60, 61, 62, 12, 13, 14, 15, 16, 63, 64, 65, 66, 28, 29, 30, 31, 71, 72, 73, 74, 75, 76, 77, 78, 79, 80, 81, 82, 83, 84, 85, 86, 87, 88, 89, 90] (by decide +kernel) (by decide +kernel)
set_option maxRecDepth 20000 in
theorem gX4_write_X4_shrink : GoodIn wsX4_write (wsV RX4 99 RX4 yX4_shrink wsX4_shrink) := goodIn_app (goodIn_of _ (by decide +kernel)) ggX4_write_X4_shrink
set_option maxRecDepth 20000 in
theorem ggX4_write_X4_addressOf : GoodIn wsX4_write wsX4_addressOf := goodIn_r _ [15, 16, 17, 18, 19, 20, 7, 21, 22, 71, 72, 73, 74, 75, 76, 77, 78, 79, 80, 81, 82, 83, 84, 85, 86, 87, 88, 89, 90] (by decide +kernel) (by decide +kernel)
set_option maxRecDepth 20000 in
theorem gX4_write_X4_addressOf : GoodIn wsX4_write (wsV RX4 64 RX4 yX4_addressOf wsX4_addressOf) := goodIn_app (goodIn_of _ (by decide +kernel)) ggX4_write_X4_addressOf
set_option maxRecDepth 20000 in
theorem ggX4_write_X4_add : GoodIn wsX4_write wsX4_add := goodIn_r _ [66, 9, 27, 11, 10, 3, 28, 29, 30, 7, 31, 2, 71, 72, 73, 74, 75, 76, 77, 78, 79, 80, 81, 82, 83, 84, 85, 86, 87, 88, 89, 90] (by decide +kernel) (by decide +kernel)
set_option maxRecDepth 20000 in
theorem gX4_write_X4_add : GoodIn wsX4_write (wsV RX4 70 RX4 yX4_add wsX4_add) := goodIn_app (goodIn_of _ (by decide +kernel)) ggX4_write_X4_add
set_option maxRecDepth 20000 in
theorem ggX4_write_X4_grow : GoodIn wsX4_write wsX4_grow := goodIn_r _ [70, 40, 17, 22, 53, 54, 55, 7, 56, 2, 9, 57, 10, 58, 3, 11, 27, 18, 19, 20, 21, 59, 60, 61, 62, 12, 13, 14, 15, 16, 63, 64, 65, 66, 28, 29, 30, 31, 71, 72, 73, 74, 75, 76, 77, 78, 79, 80, 81, 82, 83, 84, 85, 86, 87, 88, 89, 90] (by decide +kernel) (by decide +kernel)
set_option maxRecDepth 20000 in
theorem gX4_write_X4_grow : GoodIn wsX4_write (wsV RX4 102 RX4 yX4_grow wsX4_grow) := goodIn_app (goodIn_of _ (by decide +kernel)) ggX4_write_X4_grow
theorem dX4_write_0 : decode cX4_write 0 = .ok (.aload_n 0, 1) := by decide +kernel
theorem dX4_write_1 : decode cX4_write 1 = .ok (.iload_n 1, 1) := by decide +kernel
theorem dX4_write_2 : decode cX4_write 2 = .ok (.invokevirtual 93, 3) := by decide +kernel
theorem dX4_write_5 : decode cX4_write 5 = .ok (.istore_n 3, 1) := by decide +kernel
theorem dX4_write_6 : decode cX4_write 6 = .ok (.iload_n 2, 1) := by decide +kernel
theorem dX4_write_7 : decode cX4_write 7 = .ok (.ifCond .ge 48, 3) := by decide +kernel
theorem dX4_write_10 : decode cX4_write 10 = .ok (.aload_n 0, 1) := by decide +kernel
theorem dX4_write_11 : decode cX4_write 11 = .ok (.iload_n 3, 1) := by decide +kernel
theorem dX4_write_12 : decode cX4_write 12 = .ok (.invokevirtual 96, 3) := by decide +kernel
theorem dX4_write_15 : decode cX4_write 15 = .ok (.aload_n 0, 1) := by decide +kernel
theorem dX4_write_16 : decode cX4_write 16 = .ok (.dup, 1) := by decide +kernel
theorem dX4_write_17 : decode cX4_write 17 = .ok (.getfield 52, 3) := by decide +kernel
theorem dX4_write_20 : decode cX4_write 20 = .ok (.iconst 1, 1) := by decide +kernel
theorem dX4_write_21 : decode cX4_write 21 = .ok (.isub, 1) := by decide +kernel
theorem dX4_write_22 : decode cX4_write 22 = .ok (.putfield 52, 3) := by decide +kernel
theorem dX4_write_25 : decode cX4_write 25 = .ok (.aload_n 0, 1) := by decide +kernel
theorem dX4_write_26 : decode cX4_write 26 = .ok (.invokevirtual 81, 3) := by decide +kernel
theorem dX4_write_29 : decode cX4_write 29 = .ok (.iconst 4, 1) := by decide +kernel
theorem dX4_write_30 : decode cX4_write 30 = .ok (.if_icmp .le 88, 3) := by decide +kernel
theorem dX4_write_33 : decode cX4_write 33 = .ok (.iconst 2, 1) := by decide +kernel
theorem dX4_write_34 : decode cX4_write 34 = .ok (.aload_n 0, 1) := by decide +kernel
theorem dX4_write_35 : decode cX4_write 35 = .ok (.getfield 52, 3) := by decide +kernel
theorem dX4_write_38 : decode cX4_write 38 = .ok (.imul, 1) := by decide +kernel
theorem dX4_write_39 : decode cX4_write 39 = .ok (.iconst 3, 1) := by decide +kernel
theorem dX4_write_40 : decode cX4_write 40 = .ok (.aload_n 0, 1) := by decide +kernel
theorem dX4_write_41 : decode cX4_write 41 = .ok (.invokevirtual 81, 3) := by decide +kernel
theorem dX4_write_44 : decode cX4_write 44 = .ok (.imul, 1) := by decide +kernel
theorem dX4_write_45 : decode cX4_write 45 = .ok (.if_icmp .ge 73, 3) := by decide +kernel
theorem dX4_write_48 : decode cX4_write 48 = .ok (.aload_n 0, 1) := by decide +kernel
theorem dX4_write_49 : decode cX4_write 49 = .ok (.invokevirtual 99, 3) := by decide +kernel
theorem dX4_write_52 : decode cX4_write 52 = .ok (.goto 66, 3) := by decide +kernel
theorem dX4_write_55 : decode cX4_write 55 = .ok (.iload_n 3, 1) := by decide +kernel
theorem dX4_write_56 : decode cX4_write 56 = .ok (.ldc 44, 2) := by decide +kernel
theorem dX4_write_58 : decode cX4_write 58 = .ok (.if_icmp .eq 13, 3) := by decide +kernel
theorem dX4_write_61 : decode cX4_write 61 = .ok (.aload_n 0, 1) := by decide +kernel
theorem dX4_write_62 : decode cX4_write 62 = .ok (.getfield 13, 3) := by decide +kernel
theorem dX4_write_65 : decode cX4_write 65 = .ok (.iload_n 3, 1) := by decide +kernel
theorem dX4_write_66 : decode cX4_write 66 = .ok (.iload_n 2, 1) := by decide +kernel
theorem dX4_write_67 : decode cX4_write 67 = .ok (.iastore, 1) := by decide +kernel
theorem dX4_write_68 : decode cX4_write 68 = .ok (.goto 50, 3) := by decide +kernel
theorem dX4_write_71 : decode cX4_write 71 = .ok (.aload_n 0, 1) := by decide +kernel
theorem dX4_write_72 : decode cX4_write 72 = .ok (.aload_n 0, 1) := by decide +kernel
theorem dX4_write_73 : decode cX4_write 73 = .ok (.iload_n 1, 1) := by decide +kernel
theorem dX4_write_74 : decode cX4_write 74 = .ok (.invokevirtual 64, 3) := by decide +kernel
theorem dX4_write_77 : decode cX4_write 77 = .ok (.iload_n 1, 1) := by decide +kernel
theorem dX4_write_78 : decode cX4_write 78 = .ok (.iload_n 2, 1) := by decide +kernel
theorem dX4_write_79 : decode cX4_write 79 = .ok (.invokevirtual 70, 3) := by decide +kernel
theorem dX4_write_82 : decode cX4_write 82 = .ok (.aload_n 0, 1) := by decide +kernel
theorem dX4_write_83 : decode cX4_write 83 = .ok (.dup, 1) := by decide +kernel
theorem dX4_write_84 : decode cX4_write 84 = .ok (.getfield 52, 3) := by decide +kernel
theorem dX4_write_87 : decode cX4_write 87 = .ok (.iconst 1, 1) := by decide +kernel
theorem dX4_write_88 : decode cX4_write 88 = .ok (.iadd, 1) := by decide +kernel
theorem dX4_write_89 : decode cX4_write 89 = .ok (.putfield 52, 3) := by decide +kernel
theorem dX4_write_92 : decode cX4_write 92 = .ok (.aload_n 0, 1) := by decide +kernel
theorem dX4_write_93 : decode cX4_write 93 = .ok (.getfield 52, 3) := by decide +kernel
theorem dX4_write_96 : decode cX4_write 96 = .ok (.iconst 3, 1) := by decide +kernel
theorem dX4_write_97 : decode cX4_write 97 = .ok (.aload_n 0, 1) := by decide +kernel
theorem dX4_write_98 : decode cX4_write 98 = .ok (.invokevirtual 81, 3) := by decide +kernel
theorem dX4_write_101 : decode cX4_write 101 = .ok (.imul, 1) := by decide +kernel
theorem dX4_write_102 : decode cX4_write 102 = .ok (.if_icmp .le 16, 3) := by decide +kernel
theorem dX4_write_105 : decode cX4_write 105 = .ok (.aload_n 0, 1) := by decide +kernel
theorem dX4_write_106 : decode cX4_write 106 = .ok (.invokevirtual 81, 3) := by decide +kernel
theorem dX4_write_109 : decode cX4_write 109 = .ok (.bipush 64, 2) := by decide +kernel
theorem dX4_write_111 : decode cX4_write 111 = .ok (.if_icmp .ge 7, 3) := by decide +kernel
theorem dX4_write_114 : decode cX4_write 114 = .ok (.aload_n 0, 1) := by decide +kernel
theorem dX4_write_115 : decode cX4_write 115 = .ok (.invokevirtual 102, 3) := by decide +kernel
theorem dX4_write_118 : decode cX4_write 118 = .ok (.return_, 1) := by decide +kernel
set_option maxRecDepth 20000 in
theorem ggX4_note_X4_write : GoodIn wsX4_note wsX4_write := goodIn_r _ [12, 13, 14, 15, 16, 17, 18, 11, 19, 20, 21, 22, 23, 24, 25, 26, 27, 28, 29, 30, 31, 32, 33, 34, 35, 36, 37, 38, 39, 40, 41, 42, 43, 44, 45, 46, 47, 48, 49, 50, 51, 52, 53, 54, 55, 56, 57, 58, 59, 60, 61, 62, 63, 64, 65, 66, 67, 68, 69, 70, 71, 72, 73, 74, 75, 76, 77, 78, 79, 80, 81, 82, 83, 84, 85, 86, 87, 88, 89, 90, 91, 92, 93, 94, 95, 96, 97, 98, 99, 100, 101] (by decide +kernel) (by decide +kernel)
set_option maxRecDepth 20000 in
theorem gX4_note_X4_write : GoodIn wsX4_note (wsV RX4 118 RX4 yX4_write wsX4_write) := goodIn_app (goodIn_of _ (by decide +kernel)) ggX4_note_X4_write
theorem dX4_note_0 : decode cX4_note 0 = .ok (.aload_n 0, 1) := by decide +kernel
theorem dX4_note_1 : decode cX4_note 1 = .ok (.getfield 26, 3) := by decide +kernel
theorem dX4_note_4 : decode cX4_note 4 = .ok (.aload_n 0, 1) := by decide +kernel
theorem dX4_note_5 : decode cX4_note 5 = .ok (.getfield 105, 3) := by decide +kernel
theorem dX4_note_8 : decode cX4_note 8 = .ok (.iload_n 1, 1) := by decide +kernel
theorem dX4_note_9 : decode cX4_note 9 = .ok (.iastore, 1) := by decide +kernel
theorem dX4_note_10 : decode cX4_note 10 = .ok (.aload_n 0, 1) := by decide +kernel
theorem dX4_note_11 : decode cX4_note 11 = .ok (.getfield 29, 3) := by decide +kernel
theorem dX4_note_14 : decode cX4_note 14 = .ok (.aload_n 0, 1) := by decide +kernel
theorem dX4_note_15 : decode cX4_note 15 = .ok (.getfield 105, 3) := by decide +kernel
theorem dX4_note_18 : decode cX4_note 18 = .ok (.iload_n 2, 1) := by decide +kernel
theorem dX4_note_19 : decode cX4_note 19 = .ok (.iastore, 1) := by decide +kernel
theorem dX4_note_20 : decode cX4_note 20 = .ok (.aload_n 0, 1) := by decide +kernel
theorem dX4_note_21 : decode cX4_note 21 = .ok (.dup, 1) := by decide +kernel
theorem dX4_note_22 : decode cX4_note 22 = .ok (.getfield 105, 3) := by decide +kernel
theorem dX4_note_25 : decode cX4_note 25 = .ok (.iconst 1, 1) := by decide +kernel
theorem dX4_note_26 : decode cX4_note 26 = .ok (.iadd, 1) := by decide +kernel
theorem dX4_note_27 : decode cX4_note 27 = .ok (.putfield 105, 3) := by decide +kernel
theorem dX4_note_30 : decode cX4_note 30 = .ok (.aload_n 0, 1) := by decide +kernel
theorem dX4_note_31 : decode cX4_note 31 = .ok (.getfield 108, 3) := by decide +kernel
theorem dX4_note_34 : decode cX4_note 34 = .ok (.ifCond .eq 16, 3) := by decide +kernel
theorem dX4_note_37 : decode cX4_note 37 = .ok (.aload_n 0, 1) := by decide +kernel
theorem dX4_note_38 : decode cX4_note 38 = .ok (.dup, 1) := by decide +kernel
theorem dX4_note_39 : decode cX4_note 39 = .ok (.getfield 112, 3) := by decide +kernel
theorem dX4_note_42 : decode cX4_note 42 = .ok (.iconst 1, 1) := by decide +kernel
theorem dX4_note_43 : decode cX4_note 43 = .ok (.iadd, 1) := by decide +kernel
theorem dX4_note_44 : decode cX4_note 44 = .ok (.putfield 112, 3) := by decide +kernel
theorem dX4_note_47 : decode cX4_note 47 = .ok (.goto 23, 3) := by decide +kernel
theorem dX4_note_50 : decode cX4_note 50 = .ok (.aload_n 0, 1) := by decide +kernel
theorem dX4_note_51 : decode cX4_note 51 = .ok (.getfield 32, 3) := by decide +kernel
theorem dX4_note_54 : decode cX4_note 54 = .ok (.aload_n 0, 1) := by decide +kernel
theorem dX4_note_55 : decode cX4_note 55 = .ok (.getfield 115, 3) := by decide +kernel
theorem dX4_note_58 : decode cX4_note 58 = .ok (.iconst 1, 1) := by decide +kernel
theorem dX4_note_59 : decode cX4_note 59 = .ok (.iastore, 1) := by decide +kernel
theorem dX4_note_60 : decode cX4_note 60 = .ok (.aload_n 0, 1) := by decide +kernel
theorem dX4_note_61 : decode cX4_note 61 = .ok (.dup, 1) := by decide +kernel
theorem dX4_note_62 : decode cX4_note 62 = .ok (.getfield 115, 3) := by decide +kernel
theorem dX4_note_65 : decode cX4_note 65 = .ok (.iconst 1, 1) := by decide +kernel
theorem dX4_note_66 : decode cX4_note 66 = .ok (.iadd, 1) := by decide +kernel
theorem dX4_note_67 : decode cX4_note 67 = .ok (.putfield 115, 3) := by decide +kernel
theorem dX4_note_70 : decode cX4_note 70 = .ok (.aload_n 0, 1) := by decide +kernel
theorem dX4_note_71 : decode cX4_note 71 = .ok (.iload_n 1, 1) := by decide +kernel
theorem dX4_note_72 : decode cX4_note 72 = .ok (.iload_n 2, 1) := by decide +kernel
theorem dX4_note_73 : decode cX4_note 73 = .ok (.invokevirtual 118, 3) := by decide +kernel
theorem dX4_note_76 : decode cX4_note 76 = .ok (.return_, 1) := by decide +kernel
set_option maxRecDepth 20000 in
theorem ggX4_again_X4_clear : GoodIn wsX4_again wsX4_clear := goodIn_r _ [8, 9, 10, 11, 12, 13, 14, 15, 82, 83, 84, 85, 86, 87, 88, 89, 90, 91, 92, 93, 94, 95, 96, 97, 98, 99, 100, 101] (by decide +kernel) (by decide +kernel)
set_option maxRecDepth 20000 in
theorem gX4_again_X4_clear : GoodIn wsX4_again (wsV RX4 41 RX4 yX4_clear wsX4_clear) := goodIn_app (goodIn_of _ (by decide +kernel)) ggX4_again_X4_clear
set_option maxRecDepth 20000 in
theorem ggX4_again_X4_write : GoodIn wsX4_again wsX4_write := goodIn_r _ [19, 15, 11, 20, 21, 22, 23, 7, 24, 9, 25, 10, 26, 27, 28, 29, 30, 14, 31, 32, 33, 34, 13, 35, 36, 37, 38, 12, 39, 40, 41, 42, 43, 44, 45, 46, 47, 48, 49, 50, 51, 52, 53, 54, 55, 56, 57, 58, 59, 60, 61, 62, 63, 64, 65, 66, 67, 68, 69, 70, 71, 72, 73, 74, 75, 76, 77, 78, 79, 80, 81, 82, 83, 84, 85, 86, 87, 88, 89, 90, 91, 92, 93, 94, 95, 96, 97, 98, 99, 100, 101] (by decide +kernel) (by decide +kernel)
set_option maxRecDepth 20000 in
theorem gX4_again_X4_write : GoodIn wsX4_again (wsV RX4 118 RX4 yX4_write wsX4_write) := goodIn_app (goodIn_of _ (by decide +kernel)) ggX4_again_X4_write
theorem dX4_again_0 : decode cX4_again 0 = .ok (.aload_n 0, 1) := by decide +kernel
theorem dX4_again_1 : decode cX4_again 1 = .ok (.invokevirtual 41, 3) := by decide +kernel
theorem dX4_again_4 : decode cX4_again 4 = .ok (.aload_n 0, 1) := by decide +kernel
theorem dX4_again_5 : decode cX4_again 5 = .ok (.iload_n 1, 1) := by decide +kernel
theorem dX4_again_6 : decode cX4_again 6 = .ok (.putfield 105, 3) := by decide +kernel
theorem dX4_again_9 : decode cX4_again 9 = .ok (.iconst 0, 1) := by decide +kernel
theorem dX4_again_10 : decode cX4_again 10 = .ok (.istore_n 2, 1) := by decide +kernel
theorem dX4_again_11 : decode cX4_again 11 = .ok (.iload_n 2, 1) := by decide +kernel
theorem dX4_again_12 : decode cX4_again 12 = .ok (.aload_n 0, 1) := by decide +kernel
theorem dX4_again_13 : decode cX4_again 13 = .ok (.getfield 105, 3) := by decide +kernel
theorem dX4_again_16 : decode cX4_again 16 = .ok (.if_icmp .ge 25, 3) := by decide +kernel
theorem dX4_again_19 : decode cX4_again 19 = .ok (.aload_n 0, 1) := by decide +kernel
theorem dX4_again_20 : decode cX4_again 20 = .ok (.aload_n 0, 1) := by decide +kernel
theorem dX4_again_21 : decode cX4_again 21 = .ok (.getfield 26, 3) := by decide +kernel
theorem dX4_again_24 : decode cX4_again 24 = .ok (.iload_n 2, 1) := by decide +kernel
theorem dX4_again_25 : decode cX4_again 25 = .ok (.iaload, 1) := by decide +kernel
theorem dX4_again_26 : decode cX4_again 26 = .ok (.aload_n 0, 1) := by decide +kernel
theorem dX4_again_27 : decode cX4_again 27 = .ok (.getfield 29, 3) := by decide +kernel
theorem dX4_again_30 : decode cX4_again 30 = .ok (.iload_n 2, 1) := by decide +kernel
theorem dX4_again_31 : decode cX4_again 31 = .ok (.iaload, 1) := by decide +kernel
theorem dX4_again_32 : decode cX4_again 32 = .ok (.invokevirtual 118, 3) := by decide +kernel
theorem dX4_again_35 : decode cX4_again 35 = .ok (.iinc 2 1, 3) := by decide +kernel
theorem dX4_again_38 : decode cX4_again 38 = .ok (.goto (-27), 3) := by decide +kernel
theorem dX4_again_41 : decode cX4_again 41 = .ok (.return_, 1) := by decide +kernel
theorem dX4_isLogFull_0 : decode cX4_isLogFull 0 = .ok (.aload_n 0, 1) := by decide +kernel
theorem dX4_isLogFull_1 : decode cX4_isLogFull 1 = .ok (.getfield 105, 3) := by decide +kernel
theorem dX4_isLogFull_4 : decode cX4_isLogFull 4 = .ok (.aload_n 0, 1) := by decide +kernel
theorem dX4_isLogFull_5 : decode cX4_isLogFull 5 = .ok (.getfield 122, 3) := by decide +kernel
theorem dX4_isLogFull_8 : decode cX4_isLogFull 8 = .ok (.isub, 1) := by decide +kernel
theorem dX4_isLogFull_9 : decode cX4_isLogFull 9 = .ok (.bipush 64, 2) := by decide +kernel
theorem dX4_isLogFull_11 : decode cX4_isLogFull 11 = .ok (.if_icmp .ne 7, 3) := by decide +kernel
theorem dX4_isLogFull_14 : decode cX4_isLogFull 14 = .ok (.iconst 1, 1) := by decide +kernel
theorem dX4_isLogFull_15 : decode cX4_isLogFull 15 = .ok (.goto 4, 3) := by decide +kernel
theorem dX4_isLogFull_18 : decode cX4_isLogFull 18 = .ok (.iconst 0, 1) := by decide +kernel
theorem dX4_isLogFull_19 : decode cX4_isLogFull 19 = .ok (.ireturn, 1) := by decide +kernel
set_option maxRecDepth 20000 in
theorem ggX4_put_X4_placeOf : GoodIn wsX4_put wsX4_placeOf := goodIn_r _ [11, 3, 4, 12, 13, 14, 15, 16, 10, 17, 18, 19, 20, 21, 22, 23, 24, 95, 96, 97, 98, 99, 100, 101, 102, 103, 104, 105, 106, 107, 108, 109, 110, 111, 112, 113, 114] (by decide +kernel) (by decide +kernel)
set_option maxRecDepth 20000 in
theorem gX4_put_X4_placeOf : GoodIn wsX4_put (wsV RX4 93 RX4 yX4_placeOf wsX4_placeOf) := goodIn_app (goodIn_of _ (by decide +kernel)) ggX4_put_X4_placeOf
set_option maxRecDepth 20000 in
theorem ggX4_put_X4_addressOf : GoodIn wsX4_put wsX4_addressOf := goodIn_r _ [17, 18, 19, 20, 21, 22, 10, 23, 24, 95, 96, 97, 98, 99, 100, 101, 102, 103, 104, 105, 106, 107, 108, 109, 110, 111, 112, 113, 114] (by decide +kernel) (by decide +kernel)
set_option maxRecDepth 20000 in
theorem gX4_put_X4_addressOf : GoodIn wsX4_put (wsV RX4 64 RX4 yX4_addressOf wsX4_addressOf) := goodIn_app (goodIn_of _ (by decide +kernel)) ggX4_put_X4_addressOf
set_option maxRecDepth 20000 in
theorem ggX4_put_X4_lastOf : GoodIn wsX4_put wsX4_lastOf := goodIn_r _ [28, 13, 3, 95, 96, 97, 98, 99, 100, 101, 102, 103, 104, 105, 106, 107, 108, 109, 110, 111, 112, 113, 114] (by decide +kernel) (by decide +kernel)
set_option maxRecDepth 20000 in
theorem gX4_put_X4_lastOf : GoodIn wsX4_put (wsV RX4 60 RX4 yX4_lastOf wsX4_lastOf) := goodIn_app (goodIn_of _ (by decide +kernel)) ggX4_put_X4_lastOf
set_option maxRecDepth 20000 in
theorem ggX4_put_X4_freeOnes : GoodIn wsX4_put wsX4_freeOnes := goodIn_r _ [32, 33, 95, 96, 97, 98, 99, 100, 101, 102, 103, 104, 105, 106, 107, 108, 109, 110, 111, 112, 113, 114] (by decide +kernel) (by decide +kernel)
set_option maxRecDepth 20000 in
theorem gX4_put_X4_freeOnes : GoodIn wsX4_put (wsV RX4 87 RX4 yX4_freeOnes wsX4_freeOnes) := goodIn_app (goodIn_of _ (by decide +kernel)) ggX4_put_X4_freeOnes
set_option maxRecDepth 20000 in
theorem ggX4_put_X4_isLogFull : GoodIn wsX4_put wsX4_isLogFull := goodIn_r _ [37, 38, 39, 95, 96, 97, 98, 99, 100, 101, 102, 103, 104, 105, 106, 107, 108, 109, 110, 111, 112, 113, 114] (by decide +kernel) (by decide +kernel)
set_option maxRecDepth 20000 in
theorem gX4_put_X4_isLogFull : GoodIn wsX4_put (wsV RX4 128 RX4 yX4_isLogFull wsX4_isLogFull) := goodIn_app (goodIn_of _ (by decide +kernel)) ggX4_put_X4_isLogFull
set_option maxRecDepth 20000 in
theorem ggX4_put_X4_note : GoodIn wsX4_put wsX4_note := goodIn_r _ [43, 44, 38, 45, 46, 47, 48, 49, 50, 51, 52, 10, 53, 54, 3, 55, 7, 8, 9, 11, 4, 12, 13, 14, 15, 16, 17, 18, 19, 20, 21, 22, 23, 24, 56, 57, 58, 59, 33, 25, 26, 27, 28, 60, 61, 62, 63, 64, 65, 66, 67, 68, 69, 70, 71, 72, 29, 30, 31, 32, 73, 74, 75, 76, 77, 78, 79, 80, 81, 82, 83, 84, 85, 86, 87, 88, 89, 90, 91, 92, 93, 94, 95, 96, 97, 98, 99, 100, 101, 102, 103, 104, 105, 106, 107, 108, 109, 110, 111, 112, 113, 114] (by decide +kernel) (by decide +kernel)
set_option maxRecDepth 20000 in
theorem gX4_put_X4_note : GoodIn wsX4_put (wsV RX4 133 RX4 yX4_note wsX4_note) := goodIn_app (goodIn_of _ (by decide +kernel)) ggX4_put_X4_note
theorem dX4_put_0 : decode cX4_put 0 = .ok (.iload_n 2, 1) := by decide +kernel
theorem dX4_put_1 : decode cX4_put 1 = .ok (.ifCond .lt 9, 3) := by decide +kernel
theorem dX4_put_4 : decode cX4_put 4 = .ok (.iload_n 2, 1) := by decide +kernel
theorem dX4_put_5 : decode cX4_put 5 = .ok (.ldc 125, 2) := by decide +kernel
theorem dX4_put_7 : decode cX4_put 7 = .ok (.if_icmp .le 6, 3) := by decide +kernel
theorem dX4_put_10 : decode cX4_put 10 = .ok (.ldc 126, 2) := by decide +kernel
theorem dX4_put_12 : decode cX4_put 12 = .ok (.ireturn, 1) := by decide +kernel
theorem dX4_put_13 : decode cX4_put 13 = .ok (.aload_n 0, 1) := by decide +kernel
theorem dX4_put_14 : decode cX4_put 14 = .ok (.iload_n 1, 1) := by decide +kernel
theorem dX4_put_15 : decode cX4_put 15 = .ok (.invokevirtual 93, 3) := by decide +kernel
theorem dX4_put_18 : decode cX4_put 18 = .ok (.ldc 44, 2) := by decide +kernel
theorem dX4_put_20 : decode cX4_put 20 = .ok (.if_icmp .eq 7, 3) := by decide +kernel
theorem dX4_put_23 : decode cX4_put 23 = .ok (.iconst 1, 1) := by decide +kernel
theorem dX4_put_24 : decode cX4_put 24 = .ok (.goto 4, 3) := by decide +kernel
theorem dX4_put_27 : decode cX4_put 27 = .ok (.iconst 0, 1) := by decide +kernel
theorem dX4_put_28 : decode cX4_put 28 = .ok (.istore_n 3, 1) := by decide +kernel
theorem dX4_put_29 : decode cX4_put 29 = .ok (.iload_n 3, 1) := by decide +kernel
theorem dX4_put_30 : decode cX4_put 30 = .ok (.ifCond .ne 31, 3) := by decide +kernel
theorem dX4_put_33 : decode cX4_put 33 = .ok (.aload_n 0, 1) := by decide +kernel
theorem dX4_put_34 : decode cX4_put 34 = .ok (.getfield 16, 3) := by decide +kernel
theorem dX4_put_37 : decode cX4_put 37 = .ok (.aload_n 0, 1) := by decide +kernel
theorem dX4_put_38 : decode cX4_put 38 = .ok (.aload_n 0, 1) := by decide +kernel
theorem dX4_put_39 : decode cX4_put 39 = .ok (.iload_n 1, 1) := by decide +kernel
theorem dX4_put_40 : decode cX4_put 40 = .ok (.invokevirtual 64, 3) := by decide +kernel
theorem dX4_put_43 : decode cX4_put 43 = .ok (.invokevirtual 60, 3) := by decide +kernel
theorem dX4_put_46 : decode cX4_put 46 = .ok (.iaload, 1) := by decide +kernel
theorem dX4_put_47 : decode cX4_put 47 = .ok (.iconst 4, 1) := by decide +kernel
theorem dX4_put_48 : decode cX4_put 48 = .ok (.if_icmp .ne 13, 3) := by decide +kernel
theorem dX4_put_51 : decode cX4_put 51 = .ok (.aload_n 0, 1) := by decide +kernel
theorem dX4_put_52 : decode cX4_put 52 = .ok (.invokevirtual 87, 3) := by decide +kernel
theorem dX4_put_55 : decode cX4_put 55 = .ok (.ifCond .ne 6, 3) := by decide +kernel
theorem dX4_put_58 : decode cX4_put 58 = .ok (.ldc 127, 2) := by decide +kernel
theorem dX4_put_60 : decode cX4_put 60 = .ok (.ireturn, 1) := by decide +kernel
theorem dX4_put_61 : decode cX4_put 61 = .ok (.aload_n 0, 1) := by decide +kernel
theorem dX4_put_62 : decode cX4_put 62 = .ok (.invokevirtual 128, 3) := by decide +kernel
theorem dX4_put_65 : decode cX4_put 65 = .ok (.ifCond .eq 6, 3) := by decide +kernel
theorem dX4_put_68 : decode cX4_put 68 = .ok (.ldc 132, 2) := by decide +kernel
theorem dX4_put_70 : decode cX4_put 70 = .ok (.ireturn, 1) := by decide +kernel
theorem dX4_put_71 : decode cX4_put 71 = .ok (.aload_n 0, 1) := by decide +kernel
theorem dX4_put_72 : decode cX4_put 72 = .ok (.iload_n 1, 1) := by decide +kernel
theorem dX4_put_73 : decode cX4_put 73 = .ok (.iload_n 2, 1) := by decide +kernel
theorem dX4_put_74 : decode cX4_put 74 = .ok (.invokevirtual 133, 3) := by decide +kernel
theorem dX4_put_77 : decode cX4_put 77 = .ok (.iload_n 3, 1) := by decide +kernel
theorem dX4_put_78 : decode cX4_put 78 = .ok (.ifCond .eq 7, 3) := by decide +kernel
theorem dX4_put_81 : decode cX4_put 81 = .ok (.iconst 1, 1) := by decide +kernel
theorem dX4_put_82 : decode cX4_put 82 = .ok (.goto 4, 3) := by decide +kernel
theorem dX4_put_85 : decode cX4_put 85 = .ok (.iconst 0, 1) := by decide +kernel
theorem dX4_put_86 : decode cX4_put 86 = .ok (.ireturn, 1) := by decide +kernel
set_option maxRecDepth 20000 in
theorem ggX4_remove_X4_placeOf : GoodIn wsX4_remove wsX4_placeOf := goodIn_r _ [8, 1, 9, 10, 11, 12, 13, 14, 7, 15, 16, 17, 18, 19, 20, 21, 22, 92, 93, 94, 95, 96, 97, 98, 99, 100, 101, 102, 103, 104, 105, 106, 107, 108, 109, 110, 111] (by decide +kernel) (by decide +kernel)
set_option maxRecDepth 20000 in
theorem gX4_remove_X4_placeOf : GoodIn wsX4_remove (wsV RX4 93 RX4 yX4_placeOf wsX4_placeOf) := goodIn_app (goodIn_of _ (by decide +kernel)) ggX4_remove_X4_placeOf
set_option maxRecDepth 20000 in
theorem ggX4_remove_X4_isLogFull : GoodIn wsX4_remove wsX4_isLogFull := goodIn_r _ [26, 27, 28, 92, 93, 94, 95, 96, 97, 98, 99, 100, 101, 102, 103, 104, 105, 106, 107, 108, 109, 110, 111] (by decide +kernel) (by decide +kernel)
set_option maxRecDepth 20000 in
theorem gX4_remove_X4_isLogFull : GoodIn wsX4_remove (wsV RX4 128 RX4 yX4_isLogFull wsX4_isLogFull) := goodIn_app (goodIn_of _ (by decide +kernel)) ggX4_remove_X4_isLogFull
set_option maxRecDepth 20000 in
theorem ggX4_remove_X4_note : GoodIn wsX4_remove wsX4_note := goodIn_r _ [32, 33, 27, 34, 35, 36, 37, 38, 39, 40, 41, 7, 42, 43, 1, 3, 4, 5, 6, 8, 9, 10, 11, 12, 13, 14, 15, 16, 17, 18, 19, 20, 21, 22, 44, 45, 46, 47, 48, 49, 50, 51, 52, 53, 54, 55, 56, 57, 58, 59, 60, 61, 62, 63, 64, 65, 66, 67, 68, 69, 70, 71, 72, 73, 74, 75, 76, 77, 78, 79, 80, 81, 82, 83, 84, 85, 86, 87, 88, 89, 90, 91, 92, 93, 94, 95, 96, 97, 98, 99, 100, 101, 102, 103, 104, 105, 106, 107, 108, 109, 110, 111] (by decide +kernel) (by decide +kernel)
set_option maxRecDepth 20000 in
theorem gX4_remove_X4_note : GoodIn wsX4_remove (wsV RX4 133 RX4 yX4_note wsX4_note) := goodIn_app (goodIn_of _ (by decide +kernel)) ggX4_remove_X4_note
theorem dX4_remove_0 : decode cX4_remove 0 = .ok (.aload_n 0, 1) := by decide +kernel
theorem dX4_remove_1 : decode cX4_remove 1 = .ok (.iload_n 1, 1) := by decide +kernel
theorem dX4_remove_2 : decode cX4_remove 2 = .ok (.invokevirtual 93, 3) := by decide +kernel
theorem dX4_remove_5 : decode cX4_remove 5 = .ok (.istore_n 2, 1) := by decide +kernel
theorem dX4_remove_6 : decode cX4_remove 6 = .ok (.iload_n 2, 1) := by decide +kernel
theorem dX4_remove_7 : decode cX4_remove 7 = .ok (.ldc 44, 2) := by decide +kernel
theorem dX4_remove_9 : decode cX4_remove 9 = .ok (.if_icmp .ne 6, 3) := by decide +kernel
theorem dX4_remove_12 : decode cX4_remove 12 = .ok (.ldc 44, 2) := by decide +kernel
theorem dX4_remove_14 : decode cX4_remove 14 = .ok (.ireturn, 1) := by decide +kernel
theorem dX4_remove_15 : decode cX4_remove 15 = .ok (.aload_n 0, 1) := by decide +kernel
theorem dX4_remove_16 : decode cX4_remove 16 = .ok (.invokevirtual 128, 3) := by decide +kernel
theorem dX4_remove_19 : decode cX4_remove 19 = .ok (.ifCond .eq 6, 3) := by decide +kernel
theorem dX4_remove_22 : decode cX4_remove 22 = .ok (.ldc 132, 2) := by decide +kernel
theorem dX4_remove_24 : decode cX4_remove 24 = .ok (.ireturn, 1) := by decide +kernel
theorem dX4_remove_25 : decode cX4_remove 25 = .ok (.aload_n 0, 1) := by decide +kernel
theorem dX4_remove_26 : decode cX4_remove 26 = .ok (.getfield 13, 3) := by decide +kernel
theorem dX4_remove_29 : decode cX4_remove 29 = .ok (.iload_n 2, 1) := by decide +kernel
theorem dX4_remove_30 : decode cX4_remove 30 = .ok (.iaload, 1) := by decide +kernel
theorem dX4_remove_31 : decode cX4_remove 31 = .ok (.istore_n 3, 1) := by decide +kernel
theorem dX4_remove_32 : decode cX4_remove 32 = .ok (.aload_n 0, 1) := by decide +kernel
theorem dX4_remove_33 : decode cX4_remove 33 = .ok (.iload_n 1, 1) := by decide +kernel
theorem dX4_remove_34 : decode cX4_remove 34 = .ok (.iconst (-1), 1) := by decide +kernel
theorem dX4_remove_35 : decode cX4_remove 35 = .ok (.invokevirtual 133, 3) := by decide +kernel
theorem dX4_remove_38 : decode cX4_remove 38 = .ok (.iload_n 3, 1) := by decide +kernel
theorem dX4_remove_39 : decode cX4_remove 39 = .ok (.ireturn, 1) := by decide +kernel
set_option maxRecDepth 20000 in
theorem ggX4_get_X4_addressOf : GoodIn wsX4_get wsX4_addressOf := goodIn_r _ [11, 12, 13, 14, 15, 16, 10, 17, 18, 19, 20, 21, 22, 23, 24, 25, 26, 27, 28, 29, 30, 31, 32, 33, 34, 35, 36, 37, 38] (by decide +kernel) (by decide +kernel)
set_option maxRecDepth 20000 in
theorem gX4_get_X4_addressOf : GoodIn wsX4_get (wsV RX4 64 RX4 yX4_addressOf wsX4_addressOf) := goodIn_app (goodIn_of _ (by decide +kernel)) ggX4_get_X4_addressOf
theorem dX4_get_0 : decode cX4_get 0 = .ok (.aload_n 0, 1) := by decide +kernel
theorem dX4_get_1 : decode cX4_get 1 = .ok (.iload_n 1, 1) := by decide +kernel
theorem dX4_get_2 : decode cX4_get 2 = .ok (.invokevirtual 64, 3) := by decide +kernel
theorem dX4_get_5 : decode cX4_get 5 = .ok (.istore_n 2, 1) := by decide +kernel
theorem dX4_get_6 : decode cX4_get 6 = .ok (.iload_n 2, 1) := by decide +kernel
theorem dX4_get_7 : decode cX4_get 7 = .ok (.ldc 44, 2) := by decide +kernel
theorem dX4_get_9 : decode cX4_get 9 = .ok (.if_icmp .eq 66, 3) := by decide +kernel
theorem dX4_get_12 : decode cX4_get 12 = .ok (.aload_n 0, 1) := by decide +kernel
theorem dX4_get_13 : decode cX4_get 13 = .ok (.dup, 1) := by decide +kernel
theorem dX4_get_14 : decode cX4_get 14 = .ok (.getfield 136, 3) := by decide +kernel
theorem dX4_get_17 : decode cX4_get 17 = .ok (.iconst 1, 1) := by decide +kernel
theorem dX4_get_18 : decode cX4_get 18 = .ok (.iadd, 1) := by decide +kernel
theorem dX4_get_19 : decode cX4_get 19 = .ok (.putfield 136, 3) := by decide +kernel
theorem dX4_get_22 : decode cX4_get 22 = .ok (.iconst 0, 1) := by decide +kernel
theorem dX4_get_23 : decode cX4_get 23 = .ok (.istore_n 3, 1) := by decide +kernel
theorem dX4_get_24 : decode cX4_get 24 = .ok (.iload_n 3, 1) := by decide +kernel
theorem dX4_get_25 : decode cX4_get 25 = .ok (.aload_n 0, 1) := by decide +kernel
theorem dX4_get_26 : decode cX4_get 26 = .ok (.getfield 16, 3) := by decide +kernel
theorem dX4_get_29 : decode cX4_get 29 = .ok (.iload_n 2, 1) := by decide +kernel
theorem dX4_get_30 : decode cX4_get 30 = .ok (.iaload, 1) := by decide +kernel
theorem dX4_get_31 : decode cX4_get 31 = .ok (.if_icmp .ge 34, 3) := by decide +kernel
theorem dX4_get_34 : decode cX4_get 34 = .ok (.aload_n 0, 1) := by decide +kernel
theorem dX4_get_35 : decode cX4_get 35 = .ok (.getfield 7, 3) := by decide +kernel
theorem dX4_get_38 : decode cX4_get 38 = .ok (.iconst 4, 1) := by decide +kernel
theorem dX4_get_39 : decode cX4_get 39 = .ok (.iload_n 2, 1) := by decide +kernel
theorem dX4_get_40 : decode cX4_get 40 = .ok (.imul, 1) := by decide +kernel
theorem dX4_get_41 : decode cX4_get 41 = .ok (.iload_n 3, 1) := by decide +kernel
theorem dX4_get_42 : decode cX4_get 42 = .ok (.iadd, 1) := by decide +kernel
theorem dX4_get_43 : decode cX4_get 43 = .ok (.iaload, 1) := by decide +kernel
theorem dX4_get_44 : decode cX4_get 44 = .ok (.iload_n 1, 1) := by decide +kernel
theorem dX4_get_45 : decode cX4_get 45 = .ok (.if_icmp .ne 14, 3) := by decide +kernel
theorem dX4_get_48 : decode cX4_get 48 = .ok (.aload_n 0, 1) := by decide +kernel
theorem dX4_get_49 : decode cX4_get 49 = .ok (.getfield 13, 3) := by decide +kernel
theorem dX4_get_52 : decode cX4_get 52 = .ok (.iconst 4, 1) := by decide +kernel
theorem dX4_get_53 : decode cX4_get 53 = .ok (.iload_n 2, 1) := by decide +kernel
theorem dX4_get_54 : decode cX4_get 54 = .ok (.imul, 1) := by decide +kernel
theorem dX4_get_55 : decode cX4_get 55 = .ok (.iload_n 3, 1) := by decide +kernel
theorem dX4_get_56 : decode cX4_get 56 = .ok (.iadd, 1) := by decide +kernel
theorem dX4_get_57 : decode cX4_get 57 = .ok (.iaload, 1) := by decide +kernel
theorem dX4_get_58 : decode cX4_get 58 = .ok (.ireturn, 1) := by decide +kernel
theorem dX4_get_59 : decode cX4_get 59 = .ok (.iinc 3 1, 3) := by decide +kernel
theorem dX4_get_62 : decode cX4_get 62 = .ok (.goto (-38), 3) := by decide +kernel
theorem dX4_get_65 : decode cX4_get 65 = .ok (.aload_n 0, 1) := by decide +kernel
theorem dX4_get_66 : decode cX4_get 66 = .ok (.getfield 19, 3) := by decide +kernel
theorem dX4_get_69 : decode cX4_get 69 = .ok (.iload_n 2, 1) := by decide +kernel
theorem dX4_get_70 : decode cX4_get 70 = .ok (.iaload, 1) := by decide +kernel
theorem dX4_get_71 : decode cX4_get 71 = .ok (.istore_n 2, 1) := by decide +kernel
theorem dX4_get_72 : decode cX4_get 72 = .ok (.goto (-66), 3) := by decide +kernel
theorem dX4_get_75 : decode cX4_get 75 = .ok (.ldc 44, 2) := by decide +kernel
theorem dX4_get_77 : decode cX4_get 77 = .ok (.ireturn, 1) := by decide +kernel
theorem dX4_begin_0 : decode cX4_begin 0 = .ok (.aload_n 0, 1) := by decide +kernel
theorem dX4_begin_1 : decode cX4_begin 1 = .ok (.getfield 108, 3) := by decide +kernel
theorem dX4_begin_4 : decode cX4_begin 4 = .ok (.ifCond .eq 6, 3) := by decide +kernel
theorem dX4_begin_7 : decode cX4_begin 7 = .ok (.ldc 139, 2) := by decide +kernel
theorem dX4_begin_9 : decode cX4_begin 9 = .ok (.ireturn, 1) := by decide +kernel
theorem dX4_begin_10 : decode cX4_begin 10 = .ok (.aload_n 0, 1) := by decide +kernel
theorem dX4_begin_11 : decode cX4_begin 11 = .ok (.iconst 1, 1) := by decide +kernel
theorem dX4_begin_12 : decode cX4_begin 12 = .ok (.putfield 108, 3) := by decide +kernel
theorem dX4_begin_15 : decode cX4_begin 15 = .ok (.aload_n 0, 1) := by decide +kernel
theorem dX4_begin_16 : decode cX4_begin 16 = .ok (.iconst 0, 1) := by decide +kernel
theorem dX4_begin_17 : decode cX4_begin 17 = .ok (.putfield 112, 3) := by decide +kernel
theorem dX4_begin_20 : decode cX4_begin 20 = .ok (.iconst 0, 1) := by decide +kernel
theorem dX4_begin_21 : decode cX4_begin 21 = .ok (.ireturn, 1) := by decide +kernel
theorem dX4_end_0 : decode cX4_end 0 = .ok (.aload_n 0, 1) := by decide +kernel
theorem dX4_end_1 : decode cX4_end 1 = .ok (.getfield 108, 3) := by decide +kernel
theorem dX4_end_4 : decode cX4_end 4 = .ok (.ifCond .ne 6, 3) := by decide +kernel
theorem dX4_end_7 : decode cX4_end 7 = .ok (.ldc 139, 2) := by decide +kernel
theorem dX4_end_9 : decode cX4_end 9 = .ok (.ireturn, 1) := by decide +kernel
theorem dX4_end_10 : decode cX4_end 10 = .ok (.aload_n 0, 1) := by decide +kernel
theorem dX4_end_11 : decode cX4_end 11 = .ok (.iconst 0, 1) := by decide +kernel
theorem dX4_end_12 : decode cX4_end 12 = .ok (.putfield 108, 3) := by decide +kernel
theorem dX4_end_15 : decode cX4_end 15 = .ok (.aload_n 0, 1) := by decide +kernel
theorem dX4_end_16 : decode cX4_end 16 = .ok (.getfield 112, 3) := by decide +kernel
theorem dX4_end_19 : decode cX4_end 19 = .ok (.ifCond .le 26, 3) := by decide +kernel
theorem dX4_end_22 : decode cX4_end 22 = .ok (.aload_n 0, 1) := by decide +kernel
theorem dX4_end_23 : decode cX4_end 23 = .ok (.getfield 32, 3) := by decide +kernel
theorem dX4_end_26 : decode cX4_end 26 = .ok (.aload_n 0, 1) := by decide +kernel
theorem dX4_end_27 : decode cX4_end 27 = .ok (.getfield 115, 3) := by decide +kernel
theorem dX4_end_30 : decode cX4_end 30 = .ok (.aload_n 0, 1) := by decide +kernel
theorem dX4_end_31 : decode cX4_end 31 = .ok (.getfield 112, 3) := by decide +kernel
theorem dX4_end_34 : decode cX4_end 34 = .ok (.iastore, 1) := by decide +kernel
theorem dX4_end_35 : decode cX4_end 35 = .ok (.aload_n 0, 1) := by decide +kernel
theorem dX4_end_36 : decode cX4_end 36 = .ok (.dup, 1) := by decide +kernel
theorem dX4_end_37 : decode cX4_end 37 = .ok (.getfield 115, 3) := by decide +kernel
theorem dX4_end_40 : decode cX4_end 40 = .ok (.iconst 1, 1) := by decide +kernel
theorem dX4_end_41 : decode cX4_end 41 = .ok (.iadd, 1) := by decide +kernel
theorem dX4_end_42 : decode cX4_end 42 = .ok (.putfield 115, 3) := by decide +kernel
theorem dX4_end_45 : decode cX4_end 45 = .ok (.aload_n 0, 1) := by decide +kernel
theorem dX4_end_46 : decode cX4_end 46 = .ok (.getfield 112, 3) := by decide +kernel
theorem dX4_end_49 : decode cX4_end 49 = .ok (.ireturn, 1) := by decide +kernel
set_option maxRecDepth 20000 in
theorem ggX4_undo_X4_again : GoodIn wsX4_undo wsX4_again := goodIn_r _ [9, 4, 10, 11, 12, 13, 14, 8, 15, 16, 17, 18, 19, 20, 21, 22, 23, 24, 25, 26, 27, 28, 29, 30, 31, 32, 33, 34, 35, 36, 37, 38, 39, 40, 41, 42, 43, 44, 45, 46, 47, 48, 49, 50, 51, 52, 53, 54, 55, 56, 57, 58, 59, 60, 61, 62, 63, 64, 65, 66, 67, 68, 69, 70, 71, 72, 73, 74, 75, 76, 77, 78, 79, 80, 81, 82, 83, 84, 85, 86, 87, 88, 89, 90, 91, 92, 93, 94, 95, 96, 97, 98, 99, 100, 101, 102, 103, 104, 105, 106, 107, 108] (by decide +kernel) (by decide +kernel)
set_option maxRecDepth 20000 in
theorem gX4_undo_X4_again : GoodIn wsX4_undo (wsV RX4 140 RX4 yX4_again wsX4_again) := goodIn_app (goodIn_of _ (by decide +kernel)) ggX4_undo_X4_again
theorem dX4_undo_0 : decode cX4_undo 0 = .ok (.aload_n 0, 1) := by decide +kernel
theorem dX4_undo_1 : decode cX4_undo 1 = .ok (.getfield 108, 3) := by decide +kernel
theorem dX4_undo_4 : decode cX4_undo 4 = .ok (.ifCond .ne 6, 3) := by decide +kernel
theorem dX4_undo_7 : decode cX4_undo 7 = .ok (.ldc 139, 2) := by decide +kernel
theorem dX4_undo_9 : decode cX4_undo 9 = .ok (.ireturn, 1) := by decide +kernel
theorem dX4_undo_10 : decode cX4_undo 10 = .ok (.aload_n 0, 1) := by decide +kernel
theorem dX4_undo_11 : decode cX4_undo 11 = .ok (.iconst 0, 1) := by decide +kernel
theorem dX4_undo_12 : decode cX4_undo 12 = .ok (.putfield 108, 3) := by decide +kernel
theorem dX4_undo_15 : decode cX4_undo 15 = .ok (.aload_n 0, 1) := by decide +kernel
theorem dX4_undo_16 : decode cX4_undo 16 = .ok (.getfield 112, 3) := by decide +kernel
theorem dX4_undo_19 : decode cX4_undo 19 = .ok (.istore_n 1, 1) := by decide +kernel
theorem dX4_undo_20 : decode cX4_undo 20 = .ok (.aload_n 0, 1) := by decide +kernel
theorem dX4_undo_21 : decode cX4_undo 21 = .ok (.aload_n 0, 1) := by decide +kernel
theorem dX4_undo_22 : decode cX4_undo 22 = .ok (.getfield 105, 3) := by decide +kernel
theorem dX4_undo_25 : decode cX4_undo 25 = .ok (.iload_n 1, 1) := by decide +kernel
theorem dX4_undo_26 : decode cX4_undo 26 = .ok (.isub, 1) := by decide +kernel
theorem dX4_undo_27 : decode cX4_undo 27 = .ok (.invokevirtual 140, 3) := by decide +kernel
theorem dX4_undo_30 : decode cX4_undo 30 = .ok (.iload_n 1, 1) := by decide +kernel
theorem dX4_undo_31 : decode cX4_undo 31 = .ok (.ireturn, 1) := by decide +kernel
theorem dX4_keep_0 : decode cX4_keep 0 = .ok (.aload_n 0, 1) := by decide +kernel
theorem dX4_keep_1 : decode cX4_keep 1 = .ok (.getfield 108, 3) := by decide +kernel
theorem dX4_keep_4 : decode cX4_keep 4 = .ok (.ifCond .eq 6, 3) := by decide +kernel
theorem dX4_keep_7 : decode cX4_keep 7 = .ok (.ldc 139, 2) := by decide +kernel
theorem dX4_keep_9 : decode cX4_keep 9 = .ok (.ireturn, 1) := by decide +kernel
theorem dX4_keep_10 : decode cX4_keep 10 = .ok (.aload_n 0, 1) := by decide +kernel
theorem dX4_keep_11 : decode cX4_keep 11 = .ok (.getfield 105, 3) := by decide +kernel
theorem dX4_keep_14 : decode cX4_keep 14 = .ok (.aload_n 0, 1) := by decide +kernel
theorem dX4_keep_15 : decode cX4_keep 15 = .ok (.getfield 122, 3) := by decide +kernel
theorem dX4_keep_18 : decode cX4_keep 18 = .ok (.isub, 1) := by decide +kernel
theorem dX4_keep_19 : decode cX4_keep 19 = .ok (.istore_n 1, 1) := by decide +kernel
theorem dX4_keep_20 : decode cX4_keep 20 = .ok (.aload_n 0, 1) := by decide +kernel
theorem dX4_keep_21 : decode cX4_keep 21 = .ok (.aload_n 0, 1) := by decide +kernel
theorem dX4_keep_22 : decode cX4_keep 22 = .ok (.getfield 105, 3) := by decide +kernel
theorem dX4_keep_25 : decode cX4_keep 25 = .ok (.putfield 122, 3) := by decide +kernel
theorem dX4_keep_28 : decode cX4_keep 28 = .ok (.aload_n 0, 1) := by decide +kernel
theorem dX4_keep_29 : decode cX4_keep 29 = .ok (.iconst 0, 1) := by decide +kernel
theorem dX4_keep_30 : decode cX4_keep 30 = .ok (.putfield 115, 3) := by decide +kernel
theorem dX4_keep_33 : decode cX4_keep 33 = .ok (.iload_n 1, 1) := by decide +kernel
theorem dX4_keep_34 : decode cX4_keep 34 = .ok (.ireturn, 1) := by decide +kernel
set_option maxRecDepth 20000 in
theorem ggX4_stop_X4_again : GoodIn wsX4_stop wsX4_again := goodIn_r _ [11, 5, 12, 13, 14, 15, 16, 10, 17, 18, 19, 20, 21, 22, 23, 24, 25, 26, 27, 28, 29, 30, 31, 32, 33, 34, 35, 36, 37, 38, 39, 40, 41, 42, 43, 44, 45, 46, 47, 48, 49, 50, 51, 52, 53, 54, 55, 56, 57, 58, 59, 60, 61, 62, 63, 64, 65, 66, 67, 68, 69, 70, 71, 72, 73, 74, 75, 76, 77, 78, 79, 80, 81, 82, 83, 84, 85, 86, 87, 88, 89, 90, 91, 92, 93, 94, 95, 96, 97, 98, 99, 100, 101, 102, 103, 104, 105, 106, 107, 108, 109, 110] (by decide +kernel) (by decide +kernel)
set_option maxRecDepth 20000 in
theorem gX4_stop_X4_again : GoodIn wsX4_stop (wsV RX4 140 RX4 yX4_again wsX4_again) := goodIn_app (goodIn_of _ (by decide +kernel)) ggX4_stop_X4_again
theorem dX4_stop_0 : decode cX4_stop 0 = .ok (.iload_n 1, 1) := by decide +kernel
theorem dX4_stop_1 : decode cX4_stop 1 = .ok (.ifCond .ge 6, 3) := by decide +kernel
theorem dX4_stop_4 : decode cX4_stop 4 = .ok (.ldc 126, 2) := by decide +kernel
theorem dX4_stop_6 : decode cX4_stop 6 = .ok (.ireturn, 1) := by decide +kernel
theorem dX4_stop_7 : decode cX4_stop 7 = .ok (.aload_n 0, 1) := by decide +kernel
theorem dX4_stop_8 : decode cX4_stop 8 = .ok (.getfield 122, 3) := by decide +kernel
theorem dX4_stop_11 : decode cX4_stop 11 = .ok (.istore_n 2, 1) := by decide +kernel
theorem dX4_stop_12 : decode cX4_stop 12 = .ok (.iconst 0, 1) := by decide +kernel
theorem dX4_stop_13 : decode cX4_stop 13 = .ok (.istore_n 3, 1) := by decide +kernel
theorem dX4_stop_14 : decode cX4_stop 14 = .ok (.iload_n 3, 1) := by decide +kernel
theorem dX4_stop_15 : decode cX4_stop 15 = .ok (.aload_n 0, 1) := by decide +kernel
theorem dX4_stop_16 : decode cX4_stop 16 = .ok (.getfield 115, 3) := by decide +kernel
theorem dX4_stop_19 : decode cX4_stop 19 = .ok (.if_icmp .ge 23, 3) := by decide +kernel
theorem dX4_stop_22 : decode cX4_stop 22 = .ok (.iload_n 3, 1) := by decide +kernel
theorem dX4_stop_23 : decode cX4_stop 23 = .ok (.iload_n 1, 1) := by decide +kernel
theorem dX4_stop_24 : decode cX4_stop 24 = .ok (.if_icmp .ge 18, 3) := by decide +kernel
theorem dX4_stop_27 : decode cX4_stop 27 = .ok (.iload_n 2, 1) := by decide +kernel
theorem dX4_stop_28 : decode cX4_stop 28 = .ok (.aload_n 0, 1) := by decide +kernel
theorem dX4_stop_29 : decode cX4_stop 29 = .ok (.getfield 32, 3) := by decide +kernel
theorem dX4_stop_32 : decode cX4_stop 32 = .ok (.iload_n 3, 1) := by decide +kernel
theorem dX4_stop_33 : decode cX4_stop 33 = .ok (.iaload, 1) := by decide +kernel
theorem dX4_stop_34 : decode cX4_stop 34 = .ok (.iadd, 1) := by decide +kernel
theorem dX4_stop_35 : decode cX4_stop 35 = .ok (.istore_n 2, 1) := by decide +kernel
theorem dX4_stop_36 : decode cX4_stop 36 = .ok (.iinc 3 1, 3) := by decide +kernel
theorem dX4_stop_39 : decode cX4_stop 39 = .ok (.goto (-25), 3) := by decide +kernel
theorem dX4_stop_42 : decode cX4_stop 42 = .ok (.aload_n 0, 1) := by decide +kernel
theorem dX4_stop_43 : decode cX4_stop 43 = .ok (.getfield 105, 3) := by decide +kernel
theorem dX4_stop_46 : decode cX4_stop 46 = .ok (.iload_n 2, 1) := by decide +kernel
theorem dX4_stop_47 : decode cX4_stop 47 = .ok (.isub, 1) := by decide +kernel
theorem dX4_stop_48 : decode cX4_stop 48 = .ok (.istore_n 3, 1) := by decide +kernel
theorem dX4_stop_49 : decode cX4_stop 49 = .ok (.aload_n 0, 1) := by decide +kernel
theorem dX4_stop_50 : decode cX4_stop 50 = .ok (.iload_n 2, 1) := by decide +kernel
theorem dX4_stop_51 : decode cX4_stop 51 = .ok (.invokevirtual 140, 3) := by decide +kernel
theorem dX4_stop_54 : decode cX4_stop 54 = .ok (.aload_n 0, 1) := by decide +kernel
theorem dX4_stop_55 : decode cX4_stop 55 = .ok (.aload_n 0, 1) := by decide +kernel
theorem dX4_stop_56 : decode cX4_stop 56 = .ok (.getfield 105, 3) := by decide +kernel
theorem dX4_stop_59 : decode cX4_stop 59 = .ok (.putfield 122, 3) := by decide +kernel
theorem dX4_stop_62 : decode cX4_stop 62 = .ok (.aload_n 0, 1) := by decide +kernel
theorem dX4_stop_63 : decode cX4_stop 63 = .ok (.iconst 0, 1) := by decide +kernel
theorem dX4_stop_64 : decode cX4_stop 64 = .ok (.putfield 115, 3) := by decide +kernel
theorem dX4_stop_67 : decode cX4_stop 67 = .ok (.aload_n 0, 1) := by decide +kernel
theorem dX4_stop_68 : decode cX4_stop 68 = .ok (.iconst 0, 1) := by decide +kernel
theorem dX4_stop_69 : decode cX4_stop 69 = .ok (.putfield 108, 3) := by decide +kernel
theorem dX4_stop_72 : decode cX4_stop 72 = .ok (.iload_n 3, 1) := by decide +kernel
theorem dX4_stop_73 : decode cX4_stop 73 = .ok (.ireturn, 1) := by decide +kernel
set_option maxRecDepth 20000 in
theorem ggX4_address_X4_addressOf : GoodIn wsX4_address wsX4_addressOf := goodIn_r _ [5, 6, 7, 8, 9, 10, 4, 11, 12, 13, 14, 15, 16, 17, 18, 19, 20, 21, 22, 23, 24, 25, 26, 27, 28, 29, 30, 31, 32] (by decide +kernel) (by decide +kernel)
set_option maxRecDepth 20000 in
theorem gX4_address_X4_addressOf : GoodIn wsX4_address (wsV RX4 64 RX4 yX4_addressOf wsX4_addressOf) := goodIn_app (goodIn_of _ (by decide +kernel)) ggX4_address_X4_addressOf
theorem dX4_address_0 : decode cX4_address 0 = .ok (.aload_n 0, 1) := by decide +kernel
theorem dX4_address_1 : decode cX4_address 1 = .ok (.iload_n 1, 1) := by decide +kernel
theorem dX4_address_2 : decode cX4_address 2 = .ok (.invokevirtual 64, 3) := by decide +kernel
theorem dX4_address_5 : decode cX4_address 5 = .ok (.ireturn, 1) := by decide +kernel
set_option maxRecDepth 20000 in
theorem ggX4_isBucket_X4_buckets : GoodIn wsX4_isBucket wsX4_buckets := goodIn_r _ [5, 6, 7, 8, 9, 4, 10, 11, 12, 13, 14, 15, 16, 17, 18, 19, 20, 21, 22, 23, 24, 25, 26, 27, 28, 29, 30, 31] (by decide +kernel) (by decide +kernel)
set_option maxRecDepth 20000 in
theorem gX4_isBucket_X4_buckets : GoodIn wsX4_isBucket (wsV RX4 81 RX4 yX4_buckets wsX4_buckets) := goodIn_app (goodIn_of _ (by decide +kernel)) ggX4_isBucket_X4_buckets
theorem dX4_isBucket_0 : decode cX4_isBucket 0 = .ok (.iload_n 1, 1) := by decide +kernel
theorem dX4_isBucket_1 : decode cX4_isBucket 1 = .ok (.ifCond .lt 15, 3) := by decide +kernel
theorem dX4_isBucket_4 : decode cX4_isBucket 4 = .ok (.iload_n 1, 1) := by decide +kernel
theorem dX4_isBucket_5 : decode cX4_isBucket 5 = .ok (.aload_n 0, 1) := by decide +kernel
theorem dX4_isBucket_6 : decode cX4_isBucket 6 = .ok (.invokevirtual 81, 3) := by decide +kernel
theorem dX4_isBucket_9 : decode cX4_isBucket 9 = .ok (.if_icmp .ge 7, 3) := by decide +kernel
theorem dX4_isBucket_12 : decode cX4_isBucket 12 = .ok (.iconst 1, 1) := by decide +kernel
theorem dX4_isBucket_13 : decode cX4_isBucket 13 = .ok (.goto 4, 3) := by decide +kernel
theorem dX4_isBucket_16 : decode cX4_isBucket 16 = .ok (.iconst 0, 1) := by decide +kernel
theorem dX4_isBucket_17 : decode cX4_isBucket 17 = .ok (.ireturn, 1) := by decide +kernel
set_option maxRecDepth 20000 in
theorem ggX4_bucket_X4_isBucket : GoodIn wsX4_bucket wsX4_isBucket := goodIn_r _ [6, 7, 8, 9, 5, 10, 11, 12, 13, 14, 15, 16, 32, 33, 34, 35, 36, 37, 38, 39, 40, 41, 42, 43, 44, 45, 46, 47, 48, 49, 50, 51] (by decide +kernel) (by decide +kernel)
set_option maxRecDepth 20000 in
theorem gX4_bucket_X4_isBucket : GoodIn wsX4_bucket (wsV RX4 143 RX4 yX4_isBucket wsX4_isBucket) := goodIn_app (goodIn_of _ (by decide +kernel)) ggX4_bucket_X4_isBucket
set_option maxRecDepth 20000 in
theorem ggX4_bucket_X4_manyIn : GoodIn wsX4_bucket wsX4_manyIn := goodIn_r _ [20, 21, 22, 23, 32, 33, 34, 35, 36, 37, 38, 39, 40, 41, 42, 43, 44, 45, 46, 47, 48, 49, 50, 51] (by decide +kernel) (by decide +kernel)
set_option maxRecDepth 20000 in
theorem gX4_bucket_X4_manyIn : GoodIn wsX4_bucket (wsV RX4 84 RX4 yX4_manyIn wsX4_manyIn) := goodIn_app (goodIn_of _ (by decide +kernel)) ggX4_bucket_X4_manyIn
set_option maxRecDepth 20000 in
theorem ggX4_bucket_X4_pagesIn : GoodIn wsX4_bucket wsX4_pagesIn := goodIn_r _ [27, 21, 23, 32, 33, 34, 35, 36, 37, 38, 39, 40, 41, 42, 43, 44, 45, 46, 47, 48, 49, 50, 51] (by decide +kernel) (by decide +kernel)
set_option maxRecDepth 20000 in
theorem gX4_bucket_X4_pagesIn : GoodIn wsX4_bucket (wsV RX4 90 RX4 yX4_pagesIn wsX4_pagesIn) := goodIn_app (goodIn_of _ (by decide +kernel)) ggX4_bucket_X4_pagesIn
set_option maxRecDepth 20000 in
theorem ggX4_bucket_X4_lastOf : GoodIn wsX4_bucket wsX4_lastOf := goodIn_r _ [31, 23, 21, 32, 33, 34, 35, 36, 37, 38, 39, 40, 41, 42, 43, 44, 45, 46, 47, 48, 49, 50, 51] (by decide +kernel) (by decide +kernel)
set_option maxRecDepth 20000 in
theorem gX4_bucket_X4_lastOf : GoodIn wsX4_bucket (wsV RX4 60 RX4 yX4_lastOf wsX4_lastOf) := goodIn_app (goodIn_of _ (by decide +kernel)) ggX4_bucket_X4_lastOf
theorem dX4_bucket_0 : decode cX4_bucket 0 = .ok (.aload_n 0, 1) := by decide +kernel
theorem dX4_bucket_1 : decode cX4_bucket 1 = .ok (.iload_n 1, 1) := by decide +kernel
theorem dX4_bucket_2 : decode cX4_bucket 2 = .ok (.invokevirtual 143, 3) := by decide +kernel
theorem dX4_bucket_5 : decode cX4_bucket 5 = .ok (.ifCond .eq 12, 3) := by decide +kernel
theorem dX4_bucket_8 : decode cX4_bucket 8 = .ok (.iload_n 2, 1) := by decide +kernel
theorem dX4_bucket_9 : decode cX4_bucket 9 = .ok (.ifCond .lt 8, 3) := by decide +kernel
theorem dX4_bucket_12 : decode cX4_bucket 12 = .ok (.iload_n 2, 1) := by decide +kernel
theorem dX4_bucket_13 : decode cX4_bucket 13 = .ok (.iconst 2, 1) := by decide +kernel
theorem dX4_bucket_14 : decode cX4_bucket 14 = .ok (.if_icmp .le 6, 3) := by decide +kernel
theorem dX4_bucket_17 : decode cX4_bucket 17 = .ok (.ldc 126, 2) := by decide +kernel
theorem dX4_bucket_19 : decode cX4_bucket 19 = .ok (.ireturn, 1) := by decide +kernel
theorem dX4_bucket_20 : decode cX4_bucket 20 = .ok (.iload_n 2, 1) := by decide +kernel
theorem dX4_bucket_21 : decode cX4_bucket 21 = .ok (.ifCond .ne 11, 3) := by decide +kernel
theorem dX4_bucket_24 : decode cX4_bucket 24 = .ok (.aload_n 0, 1) := by decide +kernel
theorem dX4_bucket_25 : decode cX4_bucket 25 = .ok (.iload_n 1, 1) := by decide +kernel
theorem dX4_bucket_26 : decode cX4_bucket 26 = .ok (.invokevirtual 84, 3) := by decide +kernel
theorem dX4_bucket_29 : decode cX4_bucket 29 = .ok (.goto 21, 3) := by decide +kernel
theorem dX4_bucket_32 : decode cX4_bucket 32 = .ok (.iload_n 2, 1) := by decide +kernel
theorem dX4_bucket_33 : decode cX4_bucket 33 = .ok (.iconst 1, 1) := by decide +kernel
theorem dX4_bucket_34 : decode cX4_bucket 34 = .ok (.if_icmp .ne 11, 3) := by decide +kernel
theorem dX4_bucket_37 : decode cX4_bucket 37 = .ok (.aload_n 0, 1) := by decide +kernel
theorem dX4_bucket_38 : decode cX4_bucket 38 = .ok (.iload_n 1, 1) := by decide +kernel
theorem dX4_bucket_39 : decode cX4_bucket 39 = .ok (.invokevirtual 90, 3) := by decide +kernel
theorem dX4_bucket_42 : decode cX4_bucket 42 = .ok (.goto 8, 3) := by decide +kernel
theorem dX4_bucket_45 : decode cX4_bucket 45 = .ok (.aload_n 0, 1) := by decide +kernel
theorem dX4_bucket_46 : decode cX4_bucket 46 = .ok (.iload_n 1, 1) := by decide +kernel
theorem dX4_bucket_47 : decode cX4_bucket 47 = .ok (.invokevirtual 60, 3) := by decide +kernel
theorem dX4_bucket_50 : decode cX4_bucket 50 = .ok (.ireturn, 1) := by decide +kernel
set_option maxRecDepth 20000 in
theorem ggX4_ownerOf_X4_buckets : GoodIn wsX4_ownerOf wsX4_buckets := goodIn_r _ [7, 8, 9, 10, 11, 6, 12, 13, 14, 15, 16, 17, 18, 19, 20, 21, 22, 23, 24, 25, 26, 27, 28, 29, 30, 31, 32, 33] (by decide +kernel) (by decide +kernel)
set_option maxRecDepth 20000 in
theorem gX4_ownerOf_X4_buckets : GoodIn wsX4_ownerOf (wsV RX4 81 RX4 yX4_buckets wsX4_buckets) := goodIn_app (goodIn_of _ (by decide +kernel)) ggX4_ownerOf_X4_buckets
theorem dX4_ownerOf_0 : decode cX4_ownerOf 0 = .ok (.iconst 0, 1) := by decide +kernel
theorem dX4_ownerOf_1 : decode cX4_ownerOf 1 = .ok (.istore_n 2, 1) := by decide +kernel
theorem dX4_ownerOf_2 : decode cX4_ownerOf 2 = .ok (.iload_n 2, 1) := by decide +kernel
theorem dX4_ownerOf_3 : decode cX4_ownerOf 3 = .ok (.aload_n 0, 1) := by decide +kernel
theorem dX4_ownerOf_4 : decode cX4_ownerOf 4 = .ok (.invokevirtual 81, 3) := by decide +kernel
theorem dX4_ownerOf_7 : decode cX4_ownerOf 7 = .ok (.if_icmp .ge 34, 3) := by decide +kernel
theorem dX4_ownerOf_10 : decode cX4_ownerOf 10 = .ok (.iload_n 2, 1) := by decide +kernel
theorem dX4_ownerOf_11 : decode cX4_ownerOf 11 = .ok (.istore_n 3, 1) := by decide +kernel
theorem dX4_ownerOf_12 : decode cX4_ownerOf 12 = .ok (.iload_n 3, 1) := by decide +kernel
theorem dX4_ownerOf_13 : decode cX4_ownerOf 13 = .ok (.ldc 44, 2) := by decide +kernel
theorem dX4_ownerOf_15 : decode cX4_ownerOf 15 = .ok (.if_icmp .eq 20, 3) := by decide +kernel
theorem dX4_ownerOf_18 : decode cX4_ownerOf 18 = .ok (.iload_n 3, 1) := by decide +kernel
theorem dX4_ownerOf_19 : decode cX4_ownerOf 19 = .ok (.iload_n 1, 1) := by decide +kernel
theorem dX4_ownerOf_20 : decode cX4_ownerOf 20 = .ok (.if_icmp .ne 5, 3) := by decide +kernel
theorem dX4_ownerOf_23 : decode cX4_ownerOf 23 = .ok (.iload_n 2, 1) := by decide +kernel
theorem dX4_ownerOf_24 : decode cX4_ownerOf 24 = .ok (.ireturn, 1) := by decide +kernel
theorem dX4_ownerOf_25 : decode cX4_ownerOf 25 = .ok (.aload_n 0, 1) := by decide +kernel
theorem dX4_ownerOf_26 : decode cX4_ownerOf 26 = .ok (.getfield 19, 3) := by decide +kernel
theorem dX4_ownerOf_29 : decode cX4_ownerOf 29 = .ok (.iload_n 3, 1) := by decide +kernel
theorem dX4_ownerOf_30 : decode cX4_ownerOf 30 = .ok (.iaload, 1) := by decide +kernel
theorem dX4_ownerOf_31 : decode cX4_ownerOf 31 = .ok (.istore_n 3, 1) := by decide +kernel
theorem dX4_ownerOf_32 : decode cX4_ownerOf 32 = .ok (.goto (-20), 3) := by decide +kernel
theorem dX4_ownerOf_35 : decode cX4_ownerOf 35 = .ok (.iinc 2 1, 3) := by decide +kernel
theorem dX4_ownerOf_38 : decode cX4_ownerOf 38 = .ok (.goto (-36), 3) := by decide +kernel
theorem dX4_ownerOf_41 : decode cX4_ownerOf 41 = .ok (.ldc 44, 2) := by decide +kernel
theorem dX4_ownerOf_43 : decode cX4_ownerOf 43 = .ok (.ireturn, 1) := by decide +kernel
theorem dX4_isPage_0 : decode cX4_isPage 0 = .ok (.iload_n 0, 1) := by decide +kernel
theorem dX4_isPage_1 : decode cX4_isPage 1 = .ok (.ifCond .lt 14, 3) := by decide +kernel
theorem dX4_isPage_4 : decode cX4_isPage 4 = .ok (.iload_n 0, 1) := by decide +kernel
theorem dX4_isPage_5 : decode cX4_isPage 5 = .ok (.sipush 128, 3) := by decide +kernel
theorem dX4_isPage_8 : decode cX4_isPage 8 = .ok (.if_icmp .ge 7, 3) := by decide +kernel
theorem dX4_isPage_11 : decode cX4_isPage 11 = .ok (.iconst 1, 1) := by decide +kernel
theorem dX4_isPage_12 : decode cX4_isPage 12 = .ok (.goto 4, 3) := by decide +kernel
theorem dX4_isPage_15 : decode cX4_isPage 15 = .ok (.iconst 0, 1) := by decide +kernel
theorem dX4_isPage_16 : decode cX4_isPage 16 = .ok (.ireturn, 1) := by decide +kernel
set_option maxRecDepth 20000 in
theorem ggX4_page_X4_isPage : GoodIn wsX4_page wsX4_isPage := goodIn_r _ [7] (by decide +kernel) (by decide +kernel)
set_option maxRecDepth 20000 in
theorem gX4_page_X4_isPage : GoodIn wsX4_page (va_wsS RX4 147 yX4_isPage wsX4_isPage) := goodIn_app (goodIn_of _ (by decide +kernel)) ggX4_page_X4_isPage
set_option maxRecDepth 20000 in
theorem ggX4_page_X4_ownerOf : GoodIn wsX4_page wsX4_ownerOf := goodIn_r _ [11, 12, 3, 13, 14, 15, 6, 16, 17, 18, 19, 20, 21, 22, 23, 24, 25, 26, 27, 28, 29, 30, 31, 32, 33, 34, 35, 36, 37, 38, 39, 40, 41, 42] (by decide +kernel) (by decide +kernel)
set_option maxRecDepth 20000 in
theorem gX4_page_X4_ownerOf : GoodIn wsX4_page (wsV RX4 150 RX4 yX4_ownerOf wsX4_ownerOf) := goodIn_app (goodIn_of _ (by decide +kernel)) ggX4_page_X4_ownerOf
theorem dX4_page_0 : decode cX4_page 0 = .ok (.iload_n 1, 1) := by decide +kernel
theorem dX4_page_1 : decode cX4_page 1 = .ok (.invokestatic 147, 3) := by decide +kernel
theorem dX4_page_4 : decode cX4_page 4 = .ok (.ifCond .eq 12, 3) := by decide +kernel
theorem dX4_page_7 : decode cX4_page 7 = .ok (.iload_n 2, 1) := by decide +kernel
theorem dX4_page_8 : decode cX4_page 8 = .ok (.ifCond .lt 8, 3) := by decide +kernel
theorem dX4_page_11 : decode cX4_page 11 = .ok (.iload_n 2, 1) := by decide +kernel
theorem dX4_page_12 : decode cX4_page 12 = .ok (.iconst 2, 1) := by decide +kernel
theorem dX4_page_13 : decode cX4_page 13 = .ok (.if_icmp .le 6, 3) := by decide +kernel
theorem dX4_page_16 : decode cX4_page 16 = .ok (.ldc 126, 2) := by decide +kernel
theorem dX4_page_18 : decode cX4_page 18 = .ok (.ireturn, 1) := by decide +kernel
theorem dX4_page_19 : decode cX4_page 19 = .ok (.iload_n 2, 1) := by decide +kernel
theorem dX4_page_20 : decode cX4_page 20 = .ok (.ifCond .ne 12, 3) := by decide +kernel
theorem dX4_page_23 : decode cX4_page 23 = .ok (.aload_n 0, 1) := by decide +kernel
theorem dX4_page_24 : decode cX4_page 24 = .ok (.getfield 16, 3) := by decide +kernel
theorem dX4_page_27 : decode cX4_page 27 = .ok (.iload_n 1, 1) := by decide +kernel
theorem dX4_page_28 : decode cX4_page 28 = .ok (.iaload, 1) := by decide +kernel
theorem dX4_page_29 : decode cX4_page 29 = .ok (.goto 22, 3) := by decide +kernel
theorem dX4_page_32 : decode cX4_page 32 = .ok (.iload_n 2, 1) := by decide +kernel
theorem dX4_page_33 : decode cX4_page 33 = .ok (.iconst 1, 1) := by decide +kernel
theorem dX4_page_34 : decode cX4_page 34 = .ok (.if_icmp .ne 12, 3) := by decide +kernel
theorem dX4_page_37 : decode cX4_page 37 = .ok (.aload_n 0, 1) := by decide +kernel
theorem dX4_page_38 : decode cX4_page 38 = .ok (.getfield 19, 3) := by decide +kernel
theorem dX4_page_41 : decode cX4_page 41 = .ok (.iload_n 1, 1) := by decide +kernel
theorem dX4_page_42 : decode cX4_page 42 = .ok (.iaload, 1) := by decide +kernel
theorem dX4_page_43 : decode cX4_page 43 = .ok (.goto 8, 3) := by decide +kernel
theorem dX4_page_46 : decode cX4_page 46 = .ok (.aload_n 0, 1) := by decide +kernel
theorem dX4_page_47 : decode cX4_page 47 = .ok (.iload_n 1, 1) := by decide +kernel
theorem dX4_page_48 : decode cX4_page 48 = .ok (.invokevirtual 150, 3) := by decide +kernel
theorem dX4_page_51 : decode cX4_page 51 = .ok (.ireturn, 1) := by decide +kernel
set_option maxRecDepth 20000 in
theorem ggX4_cell_X4_isPage : GoodIn wsX4_cell wsX4_isPage := goodIn_r _ [9] (by decide +kernel) (by decide +kernel)
set_option maxRecDepth 20000 in
theorem gX4_cell_X4_isPage : GoodIn wsX4_cell (va_wsS RX4 147 yX4_isPage wsX4_isPage) := goodIn_app (goodIn_of _ (by decide +kernel)) ggX4_cell_X4_isPage
theorem dX4_cell_0 : decode cX4_cell 0 = .ok (.iload_n 1, 1) := by decide +kernel
theorem dX4_cell_1 : decode cX4_cell 1 = .ok (.invokestatic 147, 3) := by decide +kernel
theorem dX4_cell_4 : decode cX4_cell 4 = .ok (.ifCond .eq 21, 3) := by decide +kernel
theorem dX4_cell_7 : decode cX4_cell 7 = .ok (.iload_n 2, 1) := by decide +kernel
theorem dX4_cell_8 : decode cX4_cell 8 = .ok (.ifCond .lt 17, 3) := by decide +kernel
theorem dX4_cell_11 : decode cX4_cell 11 = .ok (.iload_n 2, 1) := by decide +kernel
theorem dX4_cell_12 : decode cX4_cell 12 = .ok (.iconst 4, 1) := by decide +kernel
theorem dX4_cell_13 : decode cX4_cell 13 = .ok (.if_icmp .ge 12, 3) := by decide +kernel
theorem dX4_cell_16 : decode cX4_cell 16 = .ok (.iload_n 3, 1) := by decide +kernel
theorem dX4_cell_17 : decode cX4_cell 17 = .ok (.ifCond .lt 8, 3) := by decide +kernel
theorem dX4_cell_20 : decode cX4_cell 20 = .ok (.iload_n 3, 1) := by decide +kernel
theorem dX4_cell_21 : decode cX4_cell 21 = .ok (.iconst 1, 1) := by decide +kernel
theorem dX4_cell_22 : decode cX4_cell 22 = .ok (.if_icmp .le 6, 3) := by decide +kernel
theorem dX4_cell_25 : decode cX4_cell 25 = .ok (.ldc 126, 2) := by decide +kernel
theorem dX4_cell_27 : decode cX4_cell 27 = .ok (.ireturn, 1) := by decide +kernel
theorem dX4_cell_28 : decode cX4_cell 28 = .ok (.iload_n 2, 1) := by decide +kernel
theorem dX4_cell_29 : decode cX4_cell 29 = .ok (.aload_n 0, 1) := by decide +kernel
theorem dX4_cell_30 : decode cX4_cell 30 = .ok (.getfield 16, 3) := by decide +kernel
theorem dX4_cell_33 : decode cX4_cell 33 = .ok (.iload_n 1, 1) := by decide +kernel
theorem dX4_cell_34 : decode cX4_cell 34 = .ok (.iaload, 1) := by decide +kernel
theorem dX4_cell_35 : decode cX4_cell 35 = .ok (.if_icmp .lt 6, 3) := by decide +kernel
theorem dX4_cell_38 : decode cX4_cell 38 = .ok (.ldc 139, 2) := by decide +kernel
theorem dX4_cell_40 : decode cX4_cell 40 = .ok (.ireturn, 1) := by decide +kernel
theorem dX4_cell_41 : decode cX4_cell 41 = .ok (.iload_n 3, 1) := by decide +kernel
theorem dX4_cell_42 : decode cX4_cell 42 = .ok (.ifCond .ne 16, 3) := by decide +kernel
theorem dX4_cell_45 : decode cX4_cell 45 = .ok (.aload_n 0, 1) := by decide +kernel
theorem dX4_cell_46 : decode cX4_cell 46 = .ok (.getfield 7, 3) := by decide +kernel
theorem dX4_cell_49 : decode cX4_cell 49 = .ok (.iconst 4, 1) := by decide +kernel
theorem dX4_cell_50 : decode cX4_cell 50 = .ok (.iload_n 1, 1) := by decide +kernel
theorem dX4_cell_51 : decode cX4_cell 51 = .ok (.imul, 1) := by decide +kernel
theorem dX4_cell_52 : decode cX4_cell 52 = .ok (.iload_n 2, 1) := by decide +kernel
theorem dX4_cell_53 : decode cX4_cell 53 = .ok (.iadd, 1) := by decide +kernel
theorem dX4_cell_54 : decode cX4_cell 54 = .ok (.iaload, 1) := by decide +kernel
theorem dX4_cell_55 : decode cX4_cell 55 = .ok (.goto 13, 3) := by decide +kernel
theorem dX4_cell_58 : decode cX4_cell 58 = .ok (.aload_n 0, 1) := by decide +kernel
theorem dX4_cell_59 : decode cX4_cell 59 = .ok (.getfield 13, 3) := by decide +kernel
theorem dX4_cell_62 : decode cX4_cell 62 = .ok (.iconst 4, 1) := by decide +kernel
theorem dX4_cell_63 : decode cX4_cell 63 = .ok (.iload_n 1, 1) := by decide +kernel
theorem dX4_cell_64 : decode cX4_cell 64 = .ok (.imul, 1) := by decide +kernel
theorem dX4_cell_65 : decode cX4_cell 65 = .ok (.iload_n 2, 1) := by decide +kernel
theorem dX4_cell_66 : decode cX4_cell 66 = .ok (.iadd, 1) := by decide +kernel
theorem dX4_cell_67 : decode cX4_cell 67 = .ok (.iaload, 1) := by decide +kernel
theorem dX4_cell_68 : decode cX4_cell 68 = .ok (.ireturn, 1) := by decide +kernel
set_option maxRecDepth 20000 in
theorem ggX4_entry_X4_buckets : GoodIn wsX4_entry wsX4_buckets := goodIn_r _ [10, 11, 12, 13, 14, 9, 15, 16, 17, 18, 19, 20, 21, 22, 23, 24, 25, 26, 27, 28, 29, 30, 31, 32, 33, 34, 35, 36] (by decide +kernel) (by decide +kernel)
set_option maxRecDepth 20000 in
theorem gX4_entry_X4_buckets : GoodIn wsX4_entry (wsV RX4 81 RX4 yX4_buckets wsX4_buckets) := goodIn_app (goodIn_of _ (by decide +kernel)) ggX4_entry_X4_buckets
theorem dX4_entry_0 : decode cX4_entry 0 = .ok (.iload_n 1, 1) := by decide +kernel
theorem dX4_entry_1 : decode cX4_entry 1 = .ok (.ifCond .ge 6, 3) := by decide +kernel
theorem dX4_entry_4 : decode cX4_entry 4 = .ok (.ldc 126, 2) := by decide +kernel
theorem dX4_entry_6 : decode cX4_entry 6 = .ok (.ireturn, 1) := by decide +kernel
theorem dX4_entry_7 : decode cX4_entry 7 = .ok (.iload_n 1, 1) := by decide +kernel
theorem dX4_entry_8 : decode cX4_entry 8 = .ok (.istore_n 2, 1) := by decide +kernel
theorem dX4_entry_9 : decode cX4_entry 9 = .ok (.iconst 0, 1) := by decide +kernel
theorem dX4_entry_10 : decode cX4_entry 10 = .ok (.istore_n 3, 1) := by decide +kernel
theorem dX4_entry_11 : decode cX4_entry 11 = .ok (.iload_n 3, 1) := by decide +kernel
theorem dX4_entry_12 : decode cX4_entry 12 = .ok (.aload_n 0, 1) := by decide +kernel
theorem dX4_entry_13 : decode cX4_entry 13 = .ok (.invokevirtual 81, 3) := by decide +kernel
theorem dX4_entry_16 : decode cX4_entry 16 = .ok (.if_icmp .ge 64, 3) := by decide +kernel
theorem dX4_entry_19 : decode cX4_entry 19 = .ok (.iload_n 3, 1) := by decide +kernel
theorem dX4_entry_20 : decode cX4_entry 20 = .ok (.istore 4, 2) := by decide +kernel
theorem dX4_entry_22 : decode cX4_entry 22 = .ok (.iload 4, 2) := by decide +kernel
theorem dX4_entry_24 : decode cX4_entry 24 = .ok (.ldc 44, 2) := by decide +kernel
theorem dX4_entry_26 : decode cX4_entry 26 = .ok (.if_icmp .eq 48, 3) := by decide +kernel
theorem dX4_entry_29 : decode cX4_entry 29 = .ok (.iload_n 2, 1) := by decide +kernel
theorem dX4_entry_30 : decode cX4_entry 30 = .ok (.aload_n 0, 1) := by decide +kernel
theorem dX4_entry_31 : decode cX4_entry 31 = .ok (.getfield 16, 3) := by decide +kernel
theorem dX4_entry_34 : decode cX4_entry 34 = .ok (.iload 4, 2) := by decide +kernel
theorem dX4_entry_36 : decode cX4_entry 36 = .ok (.iaload, 1) := by decide +kernel
theorem dX4_entry_37 : decode cX4_entry 37 = .ok (.if_icmp .ge 15, 3) := by decide +kernel
theorem dX4_entry_40 : decode cX4_entry 40 = .ok (.aload_n 0, 1) := by decide +kernel
theorem dX4_entry_41 : decode cX4_entry 41 = .ok (.getfield 13, 3) := by decide +kernel
theorem dX4_entry_44 : decode cX4_entry 44 = .ok (.iconst 4, 1) := by decide +kernel
theorem dX4_entry_45 : decode cX4_entry 45 = .ok (.iload 4, 2) := by decide +kernel
theorem dX4_entry_47 : decode cX4_entry 47 = .ok (.imul, 1) := by decide +kernel
theorem dX4_entry_48 : decode cX4_entry 48 = .ok (.iload_n 2, 1) := by decide +kernel
theorem dX4_entry_49 : decode cX4_entry 49 = .ok (.iadd, 1) := by decide +kernel
theorem dX4_entry_50 : decode cX4_entry 50 = .ok (.iaload, 1) := by decide +kernel
theorem dX4_entry_51 : decode cX4_entry 51 = .ok (.ireturn, 1) := by decide +kernel
theorem dX4_entry_52 : decode cX4_entry 52 = .ok (.iload_n 2, 1) := by decide +kernel
theorem dX4_entry_53 : decode cX4_entry 53 = .ok (.aload_n 0, 1) := by decide +kernel
theorem dX4_entry_54 : decode cX4_entry 54 = .ok (.getfield 16, 3) := by decide +kernel
theorem dX4_entry_57 : decode cX4_entry 57 = .ok (.iload 4, 2) := by decide +kernel
theorem dX4_entry_59 : decode cX4_entry 59 = .ok (.iaload, 1) := by decide +kernel
theorem dX4_entry_60 : decode cX4_entry 60 = .ok (.isub, 1) := by decide +kernel
theorem dX4_entry_61 : decode cX4_entry 61 = .ok (.istore_n 2, 1) := by decide +kernel
theorem dX4_entry_62 : decode cX4_entry 62 = .ok (.aload_n 0, 1) := by decide +kernel
theorem dX4_entry_63 : decode cX4_entry 63 = .ok (.getfield 19, 3) := by decide +kernel
theorem dX4_entry_66 : decode cX4_entry 66 = .ok (.iload 4, 2) := by decide +kernel
theorem dX4_entry_68 : decode cX4_entry 68 = .ok (.iaload, 1) := by decide +kernel
theorem dX4_entry_69 : decode cX4_entry 69 = .ok (.istore 4, 2) := by decide +kernel
theorem dX4_entry_71 : decode cX4_entry 71 = .ok (.goto (-49), 3) := by decide +kernel
theorem dX4_entry_74 : decode cX4_entry 74 = .ok (.iinc 3 1, 3) := by decide +kernel
theorem dX4_entry_77 : decode cX4_entry 77 = .ok (.goto (-66), 3) := by decide +kernel
theorem dX4_entry_80 : decode cX4_entry 80 = .ok (.ldc 44, 2) := by decide +kernel
theorem dX4_entry_82 : decode cX4_entry 82 = .ok (.ireturn, 1) := by decide +kernel
set_option maxRecDepth 20000 in
theorem ggX4_effort_X4_buckets : GoodIn wsX4_effort wsX4_buckets := goodIn_r _ [8, 9, 10, 11, 12, 7, 13, 14, 15, 16, 17, 18, 19, 20, 21, 22, 23, 24, 25, 26, 27, 28, 29, 30, 31, 32, 33, 34] (by decide +kernel) (by decide +kernel)
set_option maxRecDepth 20000 in
theorem gX4_effort_X4_buckets : GoodIn wsX4_effort (wsV RX4 81 RX4 yX4_buckets wsX4_buckets) := goodIn_app (goodIn_of _ (by decide +kernel)) ggX4_effort_X4_buckets
theorem dX4_effort_0 : decode cX4_effort 0 = .ok (.iconst 0, 1) := by decide +kernel
theorem dX4_effort_1 : decode cX4_effort 1 = .ok (.istore_n 1, 1) := by decide +kernel
theorem dX4_effort_2 : decode cX4_effort 2 = .ok (.iconst 0, 1) := by decide +kernel
theorem dX4_effort_3 : decode cX4_effort 3 = .ok (.istore_n 2, 1) := by decide +kernel
theorem dX4_effort_4 : decode cX4_effort 4 = .ok (.iload_n 2, 1) := by decide +kernel
theorem dX4_effort_5 : decode cX4_effort 5 = .ok (.aload_n 0, 1) := by decide +kernel
theorem dX4_effort_6 : decode cX4_effort 6 = .ok (.invokevirtual 81, 3) := by decide +kernel
theorem dX4_effort_9 : decode cX4_effort 9 = .ok (.if_icmp .ge 48, 3) := by decide +kernel
theorem dX4_effort_12 : decode cX4_effort 12 = .ok (.iconst 0, 1) := by decide +kernel
theorem dX4_effort_13 : decode cX4_effort 13 = .ok (.istore_n 3, 1) := by decide +kernel
theorem dX4_effort_14 : decode cX4_effort 14 = .ok (.iload_n 2, 1) := by decide +kernel
theorem dX4_effort_15 : decode cX4_effort 15 = .ok (.istore 4, 2) := by decide +kernel
theorem dX4_effort_17 : decode cX4_effort 17 = .ok (.iload 4, 2) := by decide +kernel
theorem dX4_effort_19 : decode cX4_effort 19 = .ok (.ldc 44, 2) := by decide +kernel
theorem dX4_effort_21 : decode cX4_effort 21 = .ok (.if_icmp .eq 30, 3) := by decide +kernel
theorem dX4_effort_24 : decode cX4_effort 24 = .ok (.iinc 3 1, 3) := by decide +kernel
theorem dX4_effort_27 : decode cX4_effort 27 = .ok (.iload_n 1, 1) := by decide +kernel
theorem dX4_effort_28 : decode cX4_effort 28 = .ok (.iload_n 3, 1) := by decide +kernel
theorem dX4_effort_29 : decode cX4_effort 29 = .ok (.aload_n 0, 1) := by decide +kernel
theorem dX4_effort_30 : decode cX4_effort 30 = .ok (.getfield 16, 3) := by decide +kernel
theorem dX4_effort_33 : decode cX4_effort 33 = .ok (.iload 4, 2) := by decide +kernel
theorem dX4_effort_35 : decode cX4_effort 35 = .ok (.iaload, 1) := by decide +kernel
theorem dX4_effort_36 : decode cX4_effort 36 = .ok (.imul, 1) := by decide +kernel
theorem dX4_effort_37 : decode cX4_effort 37 = .ok (.iadd, 1) := by decide +kernel
theorem dX4_effort_38 : decode cX4_effort 38 = .ok (.istore_n 1, 1) := by decide +kernel
theorem dX4_effort_39 : decode cX4_effort 39 = .ok (.aload_n 0, 1) := by decide +kernel
theorem dX4_effort_40 : decode cX4_effort 40 = .ok (.getfield 19, 3) := by decide +kernel
theorem dX4_effort_43 : decode cX4_effort 43 = .ok (.iload 4, 2) := by decide +kernel
theorem dX4_effort_45 : decode cX4_effort 45 = .ok (.iaload, 1) := by decide +kernel
theorem dX4_effort_46 : decode cX4_effort 46 = .ok (.istore 4, 2) := by decide +kernel
theorem dX4_effort_48 : decode cX4_effort 48 = .ok (.goto (-31), 3) := by decide +kernel
theorem dX4_effort_51 : decode cX4_effort 51 = .ok (.iinc 2 1, 3) := by decide +kernel
theorem dX4_effort_54 : decode cX4_effort 54 = .ok (.goto (-50), 3) := by decide +kernel
theorem dX4_effort_57 : decode cX4_effort 57 = .ok (.iload_n 1, 1) := by decide +kernel
theorem dX4_effort_58 : decode cX4_effort 58 = .ok (.ireturn, 1) := by decide +kernel
set_option maxRecDepth 20000 in
theorem ggX4_longest_X4_buckets : GoodIn wsX4_longest wsX4_buckets := goodIn_r _ [5, 6, 7, 8, 9, 4, 10, 11, 18, 19, 20, 21, 22, 23, 24, 25, 26, 27, 28, 29, 30, 31, 32, 33, 34, 35, 36, 37] (by decide +kernel) (by decide +kernel)
set_option maxRecDepth 20000 in
theorem gX4_longest_X4_buckets : GoodIn wsX4_longest (wsV RX4 81 RX4 yX4_buckets wsX4_buckets) := goodIn_app (goodIn_of _ (by decide +kernel)) ggX4_longest_X4_buckets
set_option maxRecDepth 20000 in
theorem ggX4_longest_X4_pagesIn : GoodIn wsX4_longest wsX4_pagesIn := goodIn_r _ [15, 16, 17, 18, 19, 20, 21, 22, 23, 24, 25, 26, 27, 28, 29, 30, 31, 32, 33, 34, 35, 36, 37] (by decide +kernel) (by decide +kernel)
set_option maxRecDepth 20000 in
theorem gX4_longest_X4_pagesIn : GoodIn wsX4_longest (wsV RX4 90 RX4 yX4_pagesIn wsX4_pagesIn) := goodIn_app (goodIn_of _ (by decide +kernel)) ggX4_longest_X4_pagesIn
theorem dX4_longest_0 : decode cX4_longest 0 = .ok (.iconst 0, 1) := by decide +kernel
theorem dX4_longest_1 : decode cX4_longest 1 = .ok (.istore_n 1, 1) := by decide +kernel
theorem dX4_longest_2 : decode cX4_longest 2 = .ok (.iconst 0, 1) := by decide +kernel
theorem dX4_longest_3 : decode cX4_longest 3 = .ok (.istore_n 2, 1) := by decide +kernel
theorem dX4_longest_4 : decode cX4_longest 4 = .ok (.iload_n 2, 1) := by decide +kernel
theorem dX4_longest_5 : decode cX4_longest 5 = .ok (.aload_n 0, 1) := by decide +kernel
theorem dX4_longest_6 : decode cX4_longest 6 = .ok (.invokevirtual 81, 3) := by decide +kernel
theorem dX4_longest_9 : decode cX4_longest 9 = .ok (.if_icmp .ge 28, 3) := by decide +kernel
theorem dX4_longest_12 : decode cX4_longest 12 = .ok (.aload_n 0, 1) := by decide +kernel
theorem dX4_longest_13 : decode cX4_longest 13 = .ok (.iload_n 2, 1) := by decide +kernel
theorem dX4_longest_14 : decode cX4_longest 14 = .ok (.invokevirtual 90, 3) := by decide +kernel
theorem dX4_longest_17 : decode cX4_longest 17 = .ok (.iload_n 1, 1) := by decide +kernel
theorem dX4_longest_18 : decode cX4_longest 18 = .ok (.if_icmp .le 11, 3) := by decide +kernel
theorem dX4_longest_21 : decode cX4_longest 21 = .ok (.aload_n 0, 1) := by decide +kernel
theorem dX4_longest_22 : decode cX4_longest 22 = .ok (.iload_n 2, 1) := by decide +kernel
theorem dX4_longest_23 : decode cX4_longest 23 = .ok (.invokevirtual 90, 3) := by decide +kernel
theorem dX4_longest_26 : decode cX4_longest 26 = .ok (.goto 4, 3) := by decide +kernel
theorem dX4_longest_29 : decode cX4_longest 29 = .ok (.iload_n 1, 1) := by decide +kernel
theorem dX4_longest_30 : decode cX4_longest 30 = .ok (.istore_n 1, 1) := by decide +kernel
theorem dX4_longest_31 : decode cX4_longest 31 = .ok (.iinc 2 1, 3) := by decide +kernel
theorem dX4_longest_34 : decode cX4_longest 34 = .ok (.goto (-30), 3) := by decide +kernel
theorem dX4_longest_37 : decode cX4_longest 37 = .ok (.iload_n 1, 1) := by decide +kernel
theorem dX4_longest_38 : decode cX4_longest 38 = .ok (.ireturn, 1) := by decide +kernel
set_option maxRecDepth 20000 in
theorem ggX4_count_X4_buckets : GoodIn wsX4_count wsX4_buckets := goodIn_r _ [14, 3, 15, 16, 17, 13, 18, 2, 34, 35, 36, 37, 38, 39, 40, 41, 42, 43, 44, 45, 46, 47, 48, 49, 50, 51, 52, 53] (by decide +kernel) (by decide +kernel)
set_option maxRecDepth 20000 in
theorem gX4_count_X4_buckets : GoodIn wsX4_count (wsV RX4 81 RX4 yX4_buckets wsX4_buckets) := goodIn_app (goodIn_of _ (by decide +kernel)) ggX4_count_X4_buckets
set_option maxRecDepth 20000 in
theorem ggX4_count_X4_freeOnes : GoodIn wsX4_count wsX4_freeOnes := goodIn_r _ [22, 23, 34, 35, 36, 37, 38, 39, 40, 41, 42, 43, 44, 45, 46, 47, 48, 49, 50, 51, 52, 53] (by decide +kernel) (by decide +kernel)
set_option maxRecDepth 20000 in
theorem gX4_count_X4_freeOnes : GoodIn wsX4_count (wsV RX4 87 RX4 yX4_freeOnes wsX4_freeOnes) := goodIn_app (goodIn_of _ (by decide +kernel)) ggX4_count_X4_freeOnes
set_option maxRecDepth 20000 in
theorem ggX4_count_X4_longest : GoodIn wsX4_count wsX4_longest := goodIn_r _ [27, 10, 11, 12, 13, 14, 3, 15, 16, 17, 18, 2, 28, 29, 30, 31, 32, 33, 34, 35, 36, 37, 38, 39, 40, 41, 42, 43, 44, 45, 46, 47, 48, 49, 50, 51, 52, 53] (by decide +kernel) (by decide +kernel)
set_option maxRecDepth 20000 in
theorem gX4_count_X4_longest : GoodIn wsX4_count (wsV RX4 153 RX4 yX4_longest wsX4_longest) := goodIn_app (goodIn_of _ (by decide +kernel)) ggX4_count_X4_longest
theorem dX4_count_0 : decode cX4_count 0 = .ok (.iload_n 1, 1) := by decide +kernel
theorem dX4_count_1 : decode cX4_count 1 = .ok (.tableswitch 127 0 10 #[59, 64, 69, 74, 79, 84, 94, 99, 112, 117, 122], 59) := by decide +kernel
theorem dX4_count_60 : decode cX4_count 60 = .ok (.aload_n 0, 1) := by decide +kernel
theorem dX4_count_61 : decode cX4_count 61 = .ok (.getfield 52, 3) := by decide +kernel
theorem dX4_count_64 : decode cX4_count 64 = .ok (.ireturn, 1) := by decide +kernel
theorem dX4_count_65 : decode cX4_count 65 = .ok (.aload_n 0, 1) := by decide +kernel
theorem dX4_count_66 : decode cX4_count 66 = .ok (.invokevirtual 81, 3) := by decide +kernel
theorem dX4_count_69 : decode cX4_count 69 = .ok (.ireturn, 1) := by decide +kernel
theorem dX4_count_70 : decode cX4_count 70 = .ok (.aload_n 0, 1) := by decide +kernel
theorem dX4_count_71 : decode cX4_count 71 = .ok (.getfield 45, 3) := by decide +kernel
theorem dX4_count_74 : decode cX4_count 74 = .ok (.ireturn, 1) := by decide +kernel
theorem dX4_count_75 : decode cX4_count 75 = .ok (.aload_n 0, 1) := by decide +kernel
theorem dX4_count_76 : decode cX4_count 76 = .ok (.getfield 49, 3) := by decide +kernel
theorem dX4_count_79 : decode cX4_count 79 = .ok (.ireturn, 1) := by decide +kernel
theorem dX4_count_80 : decode cX4_count 80 = .ok (.aload_n 0, 1) := by decide +kernel
theorem dX4_count_81 : decode cX4_count 81 = .ok (.invokevirtual 87, 3) := by decide +kernel
theorem dX4_count_84 : decode cX4_count 84 = .ok (.ireturn, 1) := by decide +kernel
theorem dX4_count_85 : decode cX4_count 85 = .ok (.aload_n 0, 1) := by decide +kernel
theorem dX4_count_86 : decode cX4_count 86 = .ok (.getfield 105, 3) := by decide +kernel
theorem dX4_count_89 : decode cX4_count 89 = .ok (.aload_n 0, 1) := by decide +kernel
theorem dX4_count_90 : decode cX4_count 90 = .ok (.getfield 122, 3) := by decide +kernel
theorem dX4_count_93 : decode cX4_count 93 = .ok (.isub, 1) := by decide +kernel
theorem dX4_count_94 : decode cX4_count 94 = .ok (.ireturn, 1) := by decide +kernel
theorem dX4_count_95 : decode cX4_count 95 = .ok (.aload_n 0, 1) := by decide +kernel
theorem dX4_count_96 : decode cX4_count 96 = .ok (.getfield 115, 3) := by decide +kernel
theorem dX4_count_99 : decode cX4_count 99 = .ok (.ireturn, 1) := by decide +kernel
theorem dX4_count_100 : decode cX4_count 100 = .ok (.aload_n 0, 1) := by decide +kernel
theorem dX4_count_101 : decode cX4_count 101 = .ok (.getfield 108, 3) := by decide +kernel
theorem dX4_count_104 : decode cX4_count 104 = .ok (.ifCond .eq 7, 3) := by decide +kernel
theorem dX4_count_107 : decode cX4_count 107 = .ok (.iconst 1, 1) := by decide +kernel
theorem dX4_count_108 : decode cX4_count 108 = .ok (.goto 4, 3) := by decide +kernel
theorem dX4_count_111 : decode cX4_count 111 = .ok (.iconst 0, 1) := by decide +kernel
theorem dX4_count_112 : decode cX4_count 112 = .ok (.ireturn, 1) := by decide +kernel
theorem dX4_count_113 : decode cX4_count 113 = .ok (.aload_n 0, 1) := by decide +kernel
theorem dX4_count_114 : decode cX4_count 114 = .ok (.getfield 136, 3) := by decide +kernel
theorem dX4_count_117 : decode cX4_count 117 = .ok (.ireturn, 1) := by decide +kernel
theorem dX4_count_118 : decode cX4_count 118 = .ok (.aload_n 0, 1) := by decide +kernel
theorem dX4_count_119 : decode cX4_count 119 = .ok (.getfield 105, 3) := by decide +kernel
theorem dX4_count_122 : decode cX4_count 122 = .ok (.ireturn, 1) := by decide +kernel
theorem dX4_count_123 : decode cX4_count 123 = .ok (.aload_n 0, 1) := by decide +kernel
theorem dX4_count_124 : decode cX4_count 124 = .ok (.invokevirtual 153, 3) := by decide +kernel
theorem dX4_count_127 : decode cX4_count 127 = .ok (.ireturn, 1) := by decide +kernel
theorem dX4_count_128 : decode cX4_count 128 = .ok (.ldc 126, 2) := by decide +kernel
theorem dX4_count_130 : decode cX4_count 130 = .ok (.ireturn, 1) := by decide +kernel
theorem dJ9_max_7cf53_0 : decode cJ9_max_7cf53 0 = .ok (.iload_n 0, 1) := by decide +kernel
theorem dJ9_max_7cf53_1 : decode cJ9_max_7cf53 1 = .ok (.iload_n 1, 1) := by decide +kernel
theorem dJ9_max_7cf53_2 : decode cJ9_max_7cf53 2 = .ok (.if_icmp .lt 7, 3) := by decide +kernel
theorem dJ9_max_7cf53_5 : decode cJ9_max_7cf53 5 = .ok (.iload_n 0, 1) := by decide +kernel
theorem dJ9_max_7cf53_6 : decode cJ9_max_7cf53 6 = .ok (.goto 4, 3) := by decide +kernel
theorem dJ9_max_7cf53_9 : decode cJ9_max_7cf53 9 = .ok (.iload_n 1, 1) := by decide +kernel
theorem dJ9_max_7cf53_10 : decode cJ9_max_7cf53 10 = .ok (.ireturn, 1) := by decide +kernel
theorem dJ9_min_7cf53_0 : decode cJ9_min_7cf53 0 = .ok (.iload_n 0, 1) := by decide +kernel
theorem dJ9_min_7cf53_1 : decode cJ9_min_7cf53 1 = .ok (.iload_n 1, 1) := by decide +kernel
theorem dJ9_min_7cf53_2 : decode cJ9_min_7cf53 2 = .ok (.if_icmp .gt 7, 3) := by decide +kernel
theorem dJ9_min_7cf53_5 : decode cJ9_min_7cf53 5 = .ok (.iload_n 0, 1) := by decide +kernel
theorem dJ9_min_7cf53_6 : decode cJ9_min_7cf53 6 = .ok (.goto 4, 3) := by decide +kernel
theorem dJ9_min_7cf53_9 : decode cJ9_min_7cf53 9 = .ok (.iload_n 1, 1) := by decide +kernel
theorem dJ9_min_7cf53_10 : decode cJ9_min_7cf53 10 = .ok (.ireturn, 1) := by decide +kernel
theorem dJ7_fill_53178_0 : decode cJ7_fill_53178 0 = .ok (.iconst 0, 1) := by decide +kernel
theorem dJ7_fill_53178_1 : decode cJ7_fill_53178 1 = .ok (.istore_n 2, 1) := by decide +kernel
theorem dJ7_fill_53178_2 : decode cJ7_fill_53178 2 = .ok (.aload_n 0, 1) := by decide +kernel
theorem dJ7_fill_53178_3 : decode cJ7_fill_53178 3 = .ok (.arraylength, 1) := by decide +kernel
theorem dJ7_fill_53178_4 : decode cJ7_fill_53178 4 = .ok (.istore_n 3, 1) := by decide +kernel
theorem dJ7_fill_53178_5 : decode cJ7_fill_53178 5 = .ok (.iload_n 2, 1) := by decide +kernel
theorem dJ7_fill_53178_6 : decode cJ7_fill_53178 6 = .ok (.iload_n 3, 1) := by decide +kernel
theorem dJ7_fill_53178_7 : decode cJ7_fill_53178 7 = .ok (.if_icmp .ge 13, 3) := by decide +kernel
theorem dJ7_fill_53178_10 : decode cJ7_fill_53178 10 = .ok (.aload_n 0, 1) := by decide +kernel
theorem dJ7_fill_53178_11 : decode cJ7_fill_53178 11 = .ok (.iload_n 2, 1) := by decide +kernel
theorem dJ7_fill_53178_12 : decode cJ7_fill_53178 12 = .ok (.iload_n 1, 1) := by decide +kernel
theorem dJ7_fill_53178_13 : decode cJ7_fill_53178 13 = .ok (.iastore, 1) := by decide +kernel
theorem dJ7_fill_53178_14 : decode cJ7_fill_53178 14 = .ok (.iinc 2 1, 3) := by decide +kernel
theorem dJ7_fill_53178_17 : decode cJ7_fill_53178 17 = .ok (.goto (-12), 3) := by decide +kernel
theorem dJ7_fill_53178_20 : decode cJ7_fill_53178 20 = .ok (.return_, 1) := by decide +kernel
