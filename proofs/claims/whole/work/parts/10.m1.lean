/-! made by wip/whole/gen.py and m1.py -/
theorem dmX3_put : gMeth yX3_put RX3 2 := by decide +kernel
theorem dmX3_remove : gMeth yX3_remove RX3 1 := by decide +kernel
theorem dmX3_get : gMeth yX3_get RX3 1 := by decide +kernel
theorem dmX3_begin : gMeth yX3_begin RX3 0 := by decide +kernel
theorem dmX3_end : gMeth yX3_end RX3 0 := by decide +kernel
theorem dmX3_undo : gMeth yX3_undo RX3 0 := by decide +kernel
theorem dmX3_keep : gMeth yX3_keep RX3 0 := by decide +kernel
theorem dmX3_stop : gMeth yX3_stop RX3 1 := by decide +kernel
theorem dmX3_address : gMeth yX3_address RX3 1 := by decide +kernel
theorem dmX3_bucket : gMeth yX3_bucket RX3 2 := by decide +kernel
theorem dmX3_page : gMeth yX3_page RX3 2 := by decide +kernel
theorem dmX3_cell : gMeth yX3_cell RX3 3 := by decide +kernel
theorem dmX3_entry : gMeth yX3_entry RX3 1 := by decide +kernel
theorem dmX3_effort : gMeth yX3_effort RX3 0 := by decide +kernel
theorem dmX3_count : gMeth yX3_count RX3 1 := by decide +kernel
theorem dmX3_isPage : gMeth yX3_isPage RX3 1 := by decide +kernel
theorem dmX3_write : gMeth yX3_write RX3 3 := by decide +kernel
theorem dmX3_takeBack : gMeth yX3_takeBack RX3 2 := by decide +kernel
theorem dmX3_keepCurrent : gMeth yX3_keepCurrent RX3 0 := by decide +kernel
theorem dmX4_clear : gMeth yX4_clear RX4 0 := by decide +kernel
theorem dmX4_base : gMeth yX4_base RX4 0 := by decide +kernel
theorem dmX4_buckets : gMeth yX4_buckets RX4 0 := by decide +kernel
theorem dmX4_addressOf : gMeth yX4_addressOf RX4 1 := by decide +kernel
theorem dmX4_lastOf : gMeth yX4_lastOf RX4 1 := by decide +kernel
theorem dmX4_freeOnes : gMeth yX4_freeOnes RX4 0 := by decide +kernel
theorem dmX4_add : gMeth yX4_add RX4 3 := by decide +kernel
theorem dmX4_placeOf : gMeth yX4_placeOf RX4 1 := by decide +kernel
theorem dmX4_hold : gMeth yX4_hold RX4 1 := by decide +kernel
theorem dmX4_layHeld : gMeth yX4_layHeld RX4 0 := by decide +kernel
theorem dmX4_grow : gMeth yX4_grow RX4 0 := by decide +kernel
theorem dmX4_manyIn : gMeth yX4_manyIn RX4 1 := by decide +kernel
theorem dmX4_pagesIn : gMeth yX4_pagesIn RX4 1 := by decide +kernel
theorem dmX4_shrink : gMeth yX4_shrink RX4 0 := by decide +kernel
theorem dmX4_takeOut : gMeth yX4_takeOut RX4 1 := by decide +kernel
theorem dmX4_write : gMeth yX4_write RX4 2 := by decide +kernel
theorem dmX4_note : gMeth yX4_note RX4 2 := by decide +kernel
theorem dmX4_again : gMeth yX4_again RX4 1 := by decide +kernel
theorem dmX4_isLogFull : gMeth yX4_isLogFull RX4 0 := by decide +kernel
theorem dmX4_put : gMeth yX4_put RX4 2 := by decide +kernel
theorem dmX4_remove : gMeth yX4_remove RX4 1 := by decide +kernel
theorem dmX4_get : gMeth yX4_get RX4 1 := by decide +kernel
theorem dmX4_begin : gMeth yX4_begin RX4 0 := by decide +kernel
theorem dmX4_end : gMeth yX4_end RX4 0 := by decide +kernel
theorem dmX4_undo : gMeth yX4_undo RX4 0 := by decide +kernel
theorem dmX4_keep : gMeth yX4_keep RX4 0 := by decide +kernel
theorem dmX4_stop : gMeth yX4_stop RX4 1 := by decide +kernel
theorem dmX4_address : gMeth yX4_address RX4 1 := by decide +kernel
theorem dmX4_isBucket : gMeth yX4_isBucket RX4 1 := by decide +kernel
theorem dmX4_bucket : gMeth yX4_bucket RX4 2 := by decide +kernel
theorem dmX4_ownerOf : gMeth yX4_ownerOf RX4 1 := by decide +kernel
theorem dmX4_isPage : gMeth yX4_isPage RX4 1 := by decide +kernel
theorem dmX4_page : gMeth yX4_page RX4 2 := by decide +kernel
theorem dmX4_cell : gMeth yX4_cell RX4 3 := by decide +kernel
theorem dmX4_entry : gMeth yX4_entry RX4 1 := by decide +kernel
theorem dmX4_effort : gMeth yX4_effort RX4 0 := by decide +kernel
theorem dmX4_longest : gMeth yX4_longest RX4 0 := by decide +kernel
theorem dmX4_count : gMeth yX4_count RX4 1 := by decide +kernel
theorem dmX0_push : gMeth yX0_push RX0 2 := by decide +kernel
theorem dmX1_isFull : gMeth yX1_isFull RX1 0 := by decide +kernel
theorem dmX1_isOpen : gMeth yX1_isOpen RX1 0 := by decide +kernel
theorem dmX1_writeCount : gMeth yX1_writeCount RX1 0 := by decide +kernel
theorem dmX1_groupCount : gMeth yX1_groupCount RX1 0 := by decide +kernel
theorem dmX1_openWrites : gMeth yX1_openWrites RX1 0 := by decide +kernel
theorem dmX1_note : gMeth yX1_note RX1 3 := by decide +kernel
theorem dmX1_openGroup : gMeth yX1_openGroup RX1 0 := by decide +kernel
theorem dmX1_closeGroup : gMeth yX1_closeGroup RX1 0 := by decide +kernel
theorem dmX1_dropOpenGroup : gMeth yX1_dropOpenGroup RX1 0 := by decide +kernel
theorem dmX1_clear : gMeth yX1_clear RX1 0 := by decide +kernel
theorem dmX1_writesInFirstGroups : gMeth yX1_writesInFirstGroups RX1 1 := by decide +kernel
theorem dmX1_kindOf : gMeth yX1_kindOf RX1 1 := by decide +kernel
theorem dmX1_keyOf : gMeth yX1_keyOf RX1 1 := by decide +kernel
theorem dmX1_valueOf : gMeth yX1_valueOf RX1 1 := by decide +kernel
theorem dmX1_isWrite : gMeth yX1_isWrite RX1 1 := by decide +kernel
theorem dmX1_endGroupHere : gMeth yX1_endGroupHere RX1 0 := by decide +kernel
theorem dmX2_copyFrom : gMeth yX2_copyFrom RX2 1 := by decide +kernel
theorem dmX2_entryCount : gMeth yX2_entryCount RX2 0 := by decide +kernel
theorem dmX2_levelNumber : gMeth yX2_levelNumber RX2 0 := by decide +kernel
theorem dmX2_splitNumber : gMeth yX2_splitNumber RX2 0 := by decide +kernel
theorem dmX2_bucketCount : gMeth yX2_bucketCount RX2 0 := by decide +kernel
theorem dmX2_addressOf : gMeth yX2_addressOf RX2 1 := by decide +kernel
theorem dmX2_keyIn : gMeth yX2_keyIn RX2 1 := by decide +kernel
theorem dmX2_valueIn : gMeth yX2_valueIn RX2 1 := by decide +kernel
theorem dmX2_entriesOnPage : gMeth yX2_entriesOnPage RX2 1 := by decide +kernel
theorem dmX2_pageBehind : gMeth yX2_pageBehind RX2 1 := by decide +kernel
theorem dmX2_bucketOfPage : gMeth yX2_bucketOfPage RX2 1 := by decide +kernel
theorem dmX2_lastPage : gMeth yX2_lastPage RX2 1 := by decide +kernel
theorem dmX2_pagesInChain : gMeth yX2_pagesInChain RX2 1 := by decide +kernel
theorem dmX2_entriesInChain : gMeth yX2_entriesInChain RX2 1 := by decide +kernel
theorem dmX2_freePages : gMeth yX2_freePages RX2 0 := by decide +kernel
theorem dmX2_longestChain : gMeth yX2_longestChain RX2 0 := by decide +kernel
theorem dmX2_effortForAll : gMeth yX2_effortForAll RX2 0 := by decide +kernel
theorem dmX2_cellOfEntry : gMeth yX2_cellOfEntry RX2 1 := by decide +kernel
theorem dmX2_find : gMeth yX2_find RX2 1 := by decide +kernel
theorem dmX2_pagesLookedAt : gMeth yX2_pagesLookedAt RX2 2 := by decide +kernel
theorem dmX2_hasRoomFor : gMeth yX2_hasRoomFor RX2 1 := by decide +kernel
theorem dmX2_carryOut : gMeth yX2_carryOut RX2 3 := by decide +kernel
theorem dmX2_setValue : gMeth yX2_setValue RX2 2 := by decide +kernel
theorem dmX2_grow : gMeth yX2_grow RX2 0 := by decide +kernel
theorem dmX2_shrink : gMeth yX2_shrink RX2 0 := by decide +kernel
theorem dmX2_canJoin : gMeth yX2_canJoin RX2 2 := by decide +kernel
theorem dmX2_setAside : gMeth yX2_setAside RX2 1 := by decide +kernel
theorem dmX2_clearPage : gMeth yX2_clearPage RX2 1 := by decide +kernel
theorem dmX2_append : gMeth yX2_append RX2 3 := by decide +kernel
theorem dmX2_linkNewPage : gMeth yX2_linkNewPage RX2 2 := by decide +kernel
theorem dmX2_takeOut : gMeth yX2_takeOut RX2 2 := by decide +kernel
theorem dmX2_unlinkLast : gMeth yX2_unlinkLast RX2 2 := by decide +kernel
theorem dmX2_leastFreePage : gMeth yX2_leastFreePage RX2 0 := by decide +kernel
theorem dmX2_isBucketPlace : gMeth yX2_isBucketPlace RX2 1 := by decide +kernel
set_option maxHeartbeats 1600000 in
set_option maxRecDepth 20000 in
theorem c_X3_isPage (l : Launch) (D : va_G) (cy cz : ClassId) (p : Int32) : MId l yX3_isPage wsX3_isPage (rmF 0 0) D (tyL cy cz) [.int p] ([] : va_W) (inI 128 p) ([] : va_W) := by
  refine g_entZ (cc := cX3_isPage) (maxL := 1) (own := RX3) (by decide) rfl rfl (Nat.le_of_ble_eq_true rfl) (fun x C ret => ?_)
  show G x l (rmF 0 0) D 1 0 0 ([] : va_W) [(0, .int p)] [] 0
  refine g_iload_n C dX3_isPage_0 0 rfl rfl ?_
  refine g_if_lt C (tgt := 15) dX3_isPage_1 (by decide) (fun c1 => ?_) (fun c1 => ?_)
  · skip
    refine g_iconst C (v := 0) dX3_isPage_15 (by decide) ?_
    exact ret _ () _ _ dX3_isPage_16 (by decide) (by simp [inI, c1])
  · skip
    refine g_iload_n C dX3_isPage_4 0 rfl rfl ?_
    refine g_sipush C (v := 128) dX3_isPage_5 (by decide) ?_
    refine g_icmp_ge C (tgt := 15) dX3_isPage_8 (by decide) (fun c2 => ?_) (fun c2 => ?_)
    · skip
      refine g_iconst C (v := 0) dX3_isPage_15 (by decide) ?_
      exact ret _ () _ _ dX3_isPage_16 (by decide) (by simp [inI, c1, c2])
    · skip
      refine g_iconst C (v := 1) dX3_isPage_11 (by decide) ?_
      refine g_goto C (tgt := 16) dX3_isPage_12 (by decide) ?_
      exact ret _ () _ _ dX3_isPage_16 (by decide) (by simp [inI, c1, c2])

set_option maxHeartbeats 1600000 in
set_option maxRecDepth 20000 in
theorem c_X2_isBucketPlace (l : Launch) (D : va_G) (cy cz : ClassId) (p : Int32) : MId l yX2_isBucketPlace wsX2_isBucketPlace (rmF 0 0) D (tyL cy cz) [.int p] ([] : va_W) (inI 64 p) ([] : va_W) := by
  refine g_entZ (cc := cX2_isBucketPlace) (maxL := 1) (own := RX2) (by decide) rfl rfl (Nat.le_of_ble_eq_true rfl) (fun x C ret => ?_)
  show G x l (rmF 0 0) D 1 0 0 ([] : va_W) [(0, .int p)] [] 0
  refine g_iload_n C dX2_isBucketPlace_0 0 rfl rfl ?_
  refine g_if_lt C (tgt := 14) dX2_isBucketPlace_1 (by decide) (fun c1 => ?_) (fun c1 => ?_)
  · skip
    refine g_iconst C (v := 0) dX2_isBucketPlace_14 (by decide) ?_
    exact ret _ () _ _ dX2_isBucketPlace_15 (by decide) (by simp [inI, c1])
  · skip
    refine g_iload_n C dX2_isBucketPlace_4 0 rfl rfl ?_
    refine g_bipush C (v := 64) dX2_isBucketPlace_5 (by decide) ?_
    refine g_icmp_ge C (tgt := 14) dX2_isBucketPlace_7 (by decide) (fun c2 => ?_) (fun c2 => ?_)
    · skip
      refine g_iconst C (v := 0) dX2_isBucketPlace_14 (by decide) ?_
      exact ret _ () _ _ dX2_isBucketPlace_15 (by decide) (by simp [inI, c1, c2])
    · skip
      refine g_iconst C (v := 1) dX2_isBucketPlace_10 (by decide) ?_
      refine g_goto C (tgt := 15) dX2_isBucketPlace_11 (by decide) ?_
      exact ret _ () _ _ dX2_isBucketPlace_15 (by decide) (by simp [inI, c1, c2])

theorem mX2_entryCount_f57 : Cond.fieldLink RX2 57 (TX2 10).1 (TX2 10).2.1 (TX2 10).2.2.1 ∈ wsX2_entryCount := List.mem_of_getElem? (i := 1) rfl
theorem iX2_entryCount_X2 : ∀ w ∈ wsX20, w ∈ wsX2_entryCount := by decide +kernel
set_option maxHeartbeats 1600000 in
set_option maxRecDepth 20000 in
theorem c_X2_entryCount (l : Launch) (D : va_G) (cy cz : ClassId) (g : Nat → Nat) (z0 : Nat) (P : Mem) : MId l yX2_entryCount wsX2_entryCount (rmF 0 0) D (tyL cy cz) [.ref (g 0)] (wG cy g z0 P) (P 0 2) (wG cy g z0 P) := by
  refine g_entI (cc := cX2_entryCount) (maxL := 1) (own := RX2) (by decide) rfl rfl (Nat.le_of_ble_eq_true rfl) (fun x C ret => ?_)
  show G x l (rmF 0 0) D 1 0 0 (wG cy g z0 P) [(0, .ref (g 0))] [] 0
  refine g_aload_n C dX2_entryCount_0 0 rfl rfl ?_
  refine g_get C 0 (f := 10) (v := .int (P 0 2)) (Cn := RX2) (T := TX2) (N := 11) dX2_entryCount_1 rfl rfl iX2_entryCount_X2 (by decide) mX2_entryCount_f57 rfl ?_
  exact ret _ () _ _ dX2_entryCount_4 rfl

theorem mX2_levelNumber_f50 : Cond.fieldLink RX2 50 (TX2 8).1 (TX2 8).2.1 (TX2 8).2.2.1 ∈ wsX2_levelNumber := List.mem_of_getElem? (i := 1) rfl
theorem iX2_levelNumber_X2 : ∀ w ∈ wsX20, w ∈ wsX2_levelNumber := by decide +kernel
set_option maxHeartbeats 1600000 in
set_option maxRecDepth 20000 in
theorem c_X2_levelNumber (l : Launch) (D : va_G) (cy cz : ClassId) (g : Nat → Nat) (z0 : Nat) (P : Mem) : MId l yX2_levelNumber wsX2_levelNumber (rmF 0 0) D (tyL cy cz) [.ref (g 0)] (wG cy g z0 P) (P 0 0) (wG cy g z0 P) := by
  refine g_entI (cc := cX2_levelNumber) (maxL := 1) (own := RX2) (by decide) rfl rfl (Nat.le_of_ble_eq_true rfl) (fun x C ret => ?_)
  show G x l (rmF 0 0) D 1 0 0 (wG cy g z0 P) [(0, .ref (g 0))] [] 0
  refine g_aload_n C dX2_levelNumber_0 0 rfl rfl ?_
  refine g_get C 0 (f := 8) (v := .int (P 0 0)) (Cn := RX2) (T := TX2) (N := 11) dX2_levelNumber_1 rfl rfl iX2_levelNumber_X2 (by decide) mX2_levelNumber_f50 rfl ?_
  exact ret _ () _ _ dX2_levelNumber_4 rfl

theorem mX2_splitNumber_f54 : Cond.fieldLink RX2 54 (TX2 9).1 (TX2 9).2.1 (TX2 9).2.2.1 ∈ wsX2_splitNumber := List.mem_of_getElem? (i := 1) rfl
theorem iX2_splitNumber_X2 : ∀ w ∈ wsX20, w ∈ wsX2_splitNumber := by decide +kernel
set_option maxHeartbeats 1600000 in
set_option maxRecDepth 20000 in
theorem c_X2_splitNumber (l : Launch) (D : va_G) (cy cz : ClassId) (g : Nat → Nat) (z0 : Nat) (P : Mem) : MId l yX2_splitNumber wsX2_splitNumber (rmF 0 0) D (tyL cy cz) [.ref (g 0)] (wG cy g z0 P) (P 0 1) (wG cy g z0 P) := by
  refine g_entI (cc := cX2_splitNumber) (maxL := 1) (own := RX2) (by decide) rfl rfl (Nat.le_of_ble_eq_true rfl) (fun x C ret => ?_)
  show G x l (rmF 0 0) D 1 0 0 (wG cy g z0 P) [(0, .ref (g 0))] [] 0
  refine g_aload_n C dX2_splitNumber_0 0 rfl rfl ?_
  refine g_get C 0 (f := 9) (v := .int (P 0 1)) (Cn := RX2) (T := TX2) (N := 11) dX2_splitNumber_1 rfl rfl iX2_splitNumber_X2 (by decide) mX2_splitNumber_f54 rfl ?_
  exact ret _ () _ _ dX2_splitNumber_4 rfl

theorem mX2_bucketCount_f50 : Cond.fieldLink RX2 50 (TX2 8).1 (TX2 8).2.1 (TX2 8).2.2.1 ∈ wsX2_bucketCount := List.mem_of_getElem? (i := 1) rfl
theorem iX2_bucketCount_X2 : ∀ w ∈ wsX20, w ∈ wsX2_bucketCount := by decide +kernel
theorem mX2_bucketCount_f54 : Cond.fieldLink RX2 54 (TX2 9).1 (TX2 9).2.1 (TX2 9).2.2.1 ∈ wsX2_bucketCount := List.mem_of_getElem? (i := 2) rfl
set_option maxHeartbeats 1600000 in
set_option maxRecDepth 20000 in
theorem c_X2_bucketCount (l : Launch) (D : va_G) (cy cz : ClassId) (g : Nat → Nat) (z0 : Nat) (P : Mem) : MId l yX2_bucketCount wsX2_bucketCount (rmF 0 0) D (tyL cy cz) [.ref (g 0)] (wG cy g z0 P) ((4 <<< (P 0 0 &&& 31)) + P 0 1) (wG cy g z0 P) := by
  refine g_entI (cc := cX2_bucketCount) (maxL := 1) (own := RX2) (by decide) rfl rfl (Nat.le_of_ble_eq_true rfl) (fun x C ret => ?_)
  show G x l (rmF 0 0) D 1 0 0 (wG cy g z0 P) [(0, .ref (g 0))] [] 0
  refine g_iconst C (v := 4) dX2_bucketCount_0 (by decide) ?_
  refine g_aload_n C dX2_bucketCount_1 0 rfl rfl ?_
  refine g_get C 0 (f := 8) (v := .int (P 0 0)) (Cn := RX2) (T := TX2) (N := 11) dX2_bucketCount_2 rfl rfl iX2_bucketCount_X2 (by decide) mX2_bucketCount_f50 rfl ?_
  refine g_ishl C dX2_bucketCount_5 ?_
  refine g_aload_n C dX2_bucketCount_6 0 rfl rfl ?_
  refine g_get C 0 (f := 9) (v := .int (P 0 1)) (Cn := RX2) (T := TX2) (N := 11) dX2_bucketCount_7 rfl rfl iX2_bucketCount_X2 (by decide) mX2_bucketCount_f54 rfl ?_
  refine g_iadd C dX2_bucketCount_10 ?_
  exact ret _ () _ _ dX2_bucketCount_11 rfl

theorem mX1_writeCount_f24 : Cond.fieldLink RX1 24 (TX1 4).1 (TX1 4).2.1 (TX1 4).2.2.1 ∈ wsX1_writeCount := List.mem_of_getElem? (i := 1) rfl
theorem iX1_writeCount_X1 : ∀ w ∈ wsX10, w ∈ wsX1_writeCount := by decide +kernel
set_option maxHeartbeats 1600000 in
set_option maxRecDepth 20000 in
theorem c_X1_writeCount (l : Launch) (D : va_G) (cy cz : ClassId) (j : Nat → Nat) (J : Mem) : MId l yX1_writeCount wsX1_writeCount (rmF 0 0) D (tyL cy cz) [.ref (j 0)] (wJ cy j J) (J 0 0) (wJ cy j J) := by
  refine g_entI (cc := cX1_writeCount) (maxL := 1) (own := RX1) (by decide) rfl rfl (Nat.le_of_ble_eq_true rfl) (fun x C ret => ?_)
  show G x l (rmF 0 0) D 1 0 0 (wJ cy j J) [(0, .ref (j 0))] [] 0
  refine g_aload_n C dX1_writeCount_0 0 rfl rfl ?_
  refine g_get C 0 (f := 4) (v := .int (J 0 0)) (Cn := RX1) (T := TX1) (N := 8) dX1_writeCount_1 rfl rfl iX1_writeCount_X1 (by decide) mX1_writeCount_f24 rfl ?_
  exact ret _ () _ _ dX1_writeCount_4 rfl

theorem mX1_groupCount_f32 : Cond.fieldLink RX1 32 (TX1 5).1 (TX1 5).2.1 (TX1 5).2.2.1 ∈ wsX1_groupCount := List.mem_of_getElem? (i := 1) rfl
theorem iX1_groupCount_X1 : ∀ w ∈ wsX10, w ∈ wsX1_groupCount := by decide +kernel
set_option maxHeartbeats 1600000 in
set_option maxRecDepth 20000 in
theorem c_X1_groupCount (l : Launch) (D : va_G) (cy cz : ClassId) (j : Nat → Nat) (J : Mem) : MId l yX1_groupCount wsX1_groupCount (rmF 0 0) D (tyL cy cz) [.ref (j 0)] (wJ cy j J) (J 0 1) (wJ cy j J) := by
  refine g_entI (cc := cX1_groupCount) (maxL := 1) (own := RX1) (by decide) rfl rfl (Nat.le_of_ble_eq_true rfl) (fun x C ret => ?_)
  show G x l (rmF 0 0) D 1 0 0 (wJ cy j J) [(0, .ref (j 0))] [] 0
  refine g_aload_n C dX1_groupCount_0 0 rfl rfl ?_
  refine g_get C 0 (f := 5) (v := .int (J 0 1)) (Cn := RX1) (T := TX1) (N := 8) dX1_groupCount_1 rfl rfl iX1_groupCount_X1 (by decide) mX1_groupCount_f32 rfl ?_
  exact ret _ () _ _ dX1_groupCount_4 rfl

theorem mX1_isFull_f24 : Cond.fieldLink RX1 24 (TX1 4).1 (TX1 4).2.1 (TX1 4).2.2.1 ∈ wsX1_isFull := List.mem_of_getElem? (i := 1) rfl
theorem iX1_isFull_X1 : ∀ w ∈ wsX10, w ∈ wsX1_isFull := by decide +kernel
set_option maxHeartbeats 1600000 in
set_option maxRecDepth 20000 in
theorem c_X1_isFull (l : Launch) (D : va_G) (cy cz : ClassId) (j : Nat → Nat) (J : Mem) : MId l yX1_isFull wsX1_isFull (rmF 0 0) D (tyL cy cz) [.ref (j 0)] (wJ cy j J) (if 64 ≤ J 0 0 then 1 else 0) (wJ cy j J) := by
  refine g_entZ (cc := cX1_isFull) (maxL := 1) (own := RX1) (by decide) rfl rfl (Nat.le_of_ble_eq_true rfl) (fun x C ret => ?_)
  show G x l (rmF 0 0) D 1 0 0 (wJ cy j J) [(0, .ref (j 0))] [] 0
  refine g_aload_n C dX1_isFull_0 0 rfl rfl ?_
  refine g_get C 0 (f := 4) (v := .int (J 0 0)) (Cn := RX1) (T := TX1) (N := 8) dX1_isFull_1 rfl rfl iX1_isFull_X1 (by decide) mX1_isFull_f24 rfl ?_
  refine g_bipush C (v := 64) dX1_isFull_4 (by decide) ?_
  refine g_icmp_lt C (tgt := 13) dX1_isFull_6 (by decide) (fun c1 => ?_) (fun c1 => ?_)
  · skip
    refine g_iconst C (v := 0) dX1_isFull_13 (by decide) ?_
    exact ret _ () _ _ dX1_isFull_14 (by decide) (by simp [c1])
  · skip
    refine g_iconst C (v := 1) dX1_isFull_9 (by decide) ?_
    refine g_goto C (tgt := 14) dX1_isFull_10 (by decide) ?_
    exact ret _ () _ _ dX1_isFull_14 (by decide) (by simp [c1])

theorem mX1_openWrites_f28 : Cond.fieldLink RX1 28 (TX1 6).1 (TX1 6).2.1 (TX1 6).2.2.1 ∈ wsX1_openWrites := List.mem_of_getElem? (i := 1) rfl
theorem iX1_openWrites_X1 : ∀ w ∈ wsX10, w ∈ wsX1_openWrites := by decide +kernel
theorem mX1_openWrites_f24 : Cond.fieldLink RX1 24 (TX1 4).1 (TX1 4).2.1 (TX1 4).2.2.1 ∈ wsX1_openWrites := List.mem_of_getElem? (i := 2) rfl
theorem mX1_openWrites_f35 : Cond.fieldLink RX1 35 (TX1 7).1 (TX1 7).2.1 (TX1 7).2.2.1 ∈ wsX1_openWrites := List.mem_of_getElem? (i := 3) rfl
set_option maxHeartbeats 1600000 in
set_option maxRecDepth 20000 in
theorem c_X1_openWrites (l : Launch) (D : va_G) (cy cz : ClassId) (j : Nat → Nat) (J : Mem) : MId l yX1_openWrites wsX1_openWrites (rmF 0 0) D (tyL cy cz) [.ref (j 0)] (wJ cy j J) (if J 0 2 = 0 then 0 else J 0 0 - J 0 3) (wJ cy j J) := by
  refine g_entI (cc := cX1_openWrites) (maxL := 1) (own := RX1) (by decide) rfl rfl (Nat.le_of_ble_eq_true rfl) (fun x C ret => ?_)
  show G x l (rmF 0 0) D 1 0 0 (wJ cy j J) [(0, .ref (j 0))] [] 0
  refine g_aload_n C dX1_openWrites_0 0 rfl rfl ?_
  refine g_get C 0 (f := 6) (v := .int (J 0 2)) (Cn := RX1) (T := TX1) (N := 8) dX1_openWrites_1 rfl rfl iX1_openWrites_X1 (by decide) mX1_openWrites_f28 rfl ?_
  refine g_if_eq C (tgt := 19) dX1_openWrites_4 (by decide) (fun c1 => ?_) (fun c1 => ?_)
  · skip
    refine g_iconst C (v := 0) dX1_openWrites_19 (by decide) ?_
    exact ret _ () _ _ dX1_openWrites_20 (by simp [c1])
  · skip
    refine g_aload_n C dX1_openWrites_7 0 rfl rfl ?_
    refine g_get C 0 (f := 4) (v := .int (J 0 0)) (Cn := RX1) (T := TX1) (N := 8) dX1_openWrites_8 rfl rfl iX1_openWrites_X1 (by decide) mX1_openWrites_f24 rfl ?_
    refine g_aload_n C dX1_openWrites_11 0 rfl rfl ?_
    refine g_get C 0 (f := 7) (v := .int (J 0 3)) (Cn := RX1) (T := TX1) (N := 8) dX1_openWrites_12 rfl rfl iX1_openWrites_X1 (by decide) mX1_openWrites_f35 rfl ?_
    refine g_isub C dX1_openWrites_15 ?_
    refine g_goto C (tgt := 20) dX1_openWrites_16 (by decide) ?_
    exact ret _ () _ _ dX1_openWrites_20 (by simp [c1])
