/-! made by wip/whole/gen.py and m1.py -/
theorem mX2_entriesOnPage_inX3_isPage : Cond.initialized yX3_isPage.cls ∈ wsX2_entriesOnPage := List.mem_of_getElem? (i := 3) rfl
theorem mX2_entriesOnPage_stX3_isPage : Cond.static yX3_isPage ∈ wsX2_entriesOnPage := List.mem_of_getElem? (i := 2) rfl
theorem mX2_entriesOnPage_f18 : Cond.fieldLink RX2 18 (TX2 2).1 (TX2 2).2.1 (TX2 2).2.2.1 ∈ wsX2_entriesOnPage := List.mem_of_getElem? (i := 1) rfl
theorem iX2_entriesOnPage_X2 : ∀ w ∈ wsX20, w ∈ wsX2_entriesOnPage := by decide +kernel
set_option maxHeartbeats 1600000 in
set_option maxRecDepth 20000 in
theorem c_X2_entriesOnPage (l : Launch) (D : va_G) (cy cz : ClassId) (g : Nat → Nat) (z0 : Nat) (P : Mem) (q : Nat) (hq : q < 128) : MId l yX2_entriesOnPage wsX2_entriesOnPage (rmF 1 36) D (tyL cy cz) [.ref (g 0), .int (nI q)] (wG cy g z0 P) (P 3 q) (wG cy g z0 P) := by
  refine g_entI (cc := cX2_entriesOnPage) (maxL := 2) (own := RX2) (by decide) rfl rfl (Nat.le_of_ble_eq_true rfl) (fun x C ret => ?_)
  show G x l (rmF 1 36) D 2 0 0 (wG cy g z0 P) [(0, .ref (g 0)), (1, .int (nI q))] [] 0
  refine g_iload_n C dX2_entriesOnPage_0 1 rfl rfl ?_
  refine g_callIN C [] [0, 1, 2, 3, 4, 5, 6, 7] [0, 1, 2, 3, 4, 5, 6, 7] (As := [.int (nI q)]) (rest := []) (wr := (wG cy g z0 P)) (wf := fun _ => (wG cy g z0 P)) dX2_entriesOnPage_1 gX2_entriesOnPage_X3_isPage_n61 rfl dmX3_isPage ⟨rfl, rfl, Nat.le_of_ble_eq_true rfl, Nat.le_of_ble_eq_true rfl, Nat.zero_le _, Nat.zero_le _⟩ rfl mX2_entriesOnPage_inX3_isPage mX2_entriesOnPage_stX3_isPage (c_X3_isPage l D cy cz (nI q)) ⟨rfl, rfl, rfl, rfl, by decide, rfl, fun _ => rfl⟩ (Nat.le_of_ble_eq_true rfl) ?_
  rintro _ - rfl
  show G x l (rmF 1 36) D 2 0 0 (wG cy g z0 P) [(0, .ref (g 0)), (1, .int (nI q))] [.int (inI 128 (nI q))] 4
  refine g_top (b := 1) (inI_nI (N := 128) hq (by decide)) ?_
  refine g_if_eq C (tgt := 16) dX2_entriesOnPage_4 (by decide) (fun c1 => ?_) (fun c1 => ?_)
  · skip
    exact absurd c1 (by decide)
  · skip
    refine g_aload_n C dX2_entriesOnPage_7 0 rfl rfl ?_
    refine g_get C 0 (f := 2) (v := .ref (g 3)) (Cn := RX2) (T := TX2) (N := 11) dX2_entriesOnPage_8 rfl rfl iX2_entriesOnPage_X2 (by decide) mX2_entriesOnPage_f18 rfl ?_
    refine g_iload_n C dX2_entriesOnPage_11 1 rfl rfl ?_
    refine g_iald C 3 0 (f := P 3) (N := 128) q dX2_entriesOnPage_12 rfl rfl (by decide) (rfl) (by omega) ?_
    refine g_goto C (tgt := 17) dX2_entriesOnPage_13 (by decide) ?_
    exact ret _ () _ _ dX2_entriesOnPage_17 rfl

theorem mX2_pageBehind_inX3_isPage : Cond.initialized yX3_isPage.cls ∈ wsX2_pageBehind := List.mem_of_getElem? (i := 4) rfl
theorem mX2_pageBehind_stX3_isPage : Cond.static yX3_isPage ∈ wsX2_pageBehind := List.mem_of_getElem? (i := 3) rfl
theorem mX2_pageBehind_f21 : Cond.fieldLink RX2 21 (TX2 3).1 (TX2 3).2.1 (TX2 3).2.2.1 ∈ wsX2_pageBehind := List.mem_of_getElem? (i := 1) rfl
theorem iX2_pageBehind_X2 : ∀ w ∈ wsX20, w ∈ wsX2_pageBehind := by decide +kernel
set_option maxHeartbeats 1600000 in
set_option maxRecDepth 20000 in
theorem c_X2_pageBehind (l : Launch) (D : va_G) (cy cz : ClassId) (g : Nat → Nat) (z0 : Nat) (P : Mem) (q : Nat) (hq : q < 128) : MId l yX2_pageBehind wsX2_pageBehind (rmF 1 36) D (tyL cy cz) [.ref (g 0), .int (nI q)] (wG cy g z0 P) (P 4 q) (wG cy g z0 P) := by
  refine g_entI (cc := cX2_pageBehind) (maxL := 2) (own := RX2) (by decide) rfl rfl (Nat.le_of_ble_eq_true rfl) (fun x C ret => ?_)
  show G x l (rmF 1 36) D 2 0 0 (wG cy g z0 P) [(0, .ref (g 0)), (1, .int (nI q))] [] 0
  refine g_iload_n C dX2_pageBehind_0 1 rfl rfl ?_
  refine g_callIN C [] [0, 1, 2, 3, 4, 5, 6, 7] [0, 1, 2, 3, 4, 5, 6, 7] (As := [.int (nI q)]) (rest := []) (wr := (wG cy g z0 P)) (wf := fun _ => (wG cy g z0 P)) dX2_pageBehind_1 gX2_pageBehind_X3_isPage_n61 rfl dmX3_isPage ⟨rfl, rfl, Nat.le_of_ble_eq_true rfl, Nat.le_of_ble_eq_true rfl, Nat.zero_le _, Nat.zero_le _⟩ rfl mX2_pageBehind_inX3_isPage mX2_pageBehind_stX3_isPage (c_X3_isPage l D cy cz (nI q)) ⟨rfl, rfl, rfl, rfl, by decide, rfl, fun _ => rfl⟩ (Nat.le_of_ble_eq_true rfl) ?_
  rintro _ - rfl
  show G x l (rmF 1 36) D 2 0 0 (wG cy g z0 P) [(0, .ref (g 0)), (1, .int (nI q))] [.int (inI 128 (nI q))] 4
  refine g_top (b := 1) (inI_nI (N := 128) hq (by decide)) ?_
  refine g_if_eq C (tgt := 16) dX2_pageBehind_4 (by decide) (fun c1 => ?_) (fun c1 => ?_)
  · skip
    exact absurd c1 (by decide)
  · skip
    refine g_aload_n C dX2_pageBehind_7 0 rfl rfl ?_
    refine g_get C 0 (f := 3) (v := .ref (g 4)) (Cn := RX2) (T := TX2) (N := 11) dX2_pageBehind_8 rfl rfl iX2_pageBehind_X2 (by decide) mX2_pageBehind_f21 rfl ?_
    refine g_iload_n C dX2_pageBehind_11 1 rfl rfl ?_
    refine g_iald C 4 0 (f := P 4) (N := 128) q dX2_pageBehind_12 rfl rfl (by decide) (rfl) (by omega) ?_
    refine g_goto C (tgt := 18) dX2_pageBehind_13 (by decide) ?_
    exact ret _ () _ _ dX2_pageBehind_18 rfl

theorem mX2_lastPage_f30 : Cond.fieldLink RX2 30 (TX2 6).1 (TX2 6).2.1 (TX2 6).2.2.1 ∈ wsX2_lastPage := List.mem_of_getElem? (i := 1) rfl
theorem iX2_lastPage_X2 : ∀ w ∈ wsX20, w ∈ wsX2_lastPage := by decide +kernel
set_option maxHeartbeats 1600000 in
set_option maxRecDepth 20000 in
theorem c_X2_lastPage (l : Launch) (D : va_G) (cy cz : ClassId) (g : Nat → Nat) (z0 : Nat) (P : Mem) (q : Nat) (hq : q < 64) : MId l yX2_lastPage wsX2_lastPage (rmF 1 36) D (tyL cy cz) [.ref (g 0), .int (nI q)] (wG cy g z0 P) (P 7 q) (wG cy g z0 P) := by
  refine g_entI (cc := cX2_lastPage) (maxL := 2) (own := RX2) (by decide) rfl rfl (Nat.le_of_ble_eq_true rfl) (fun x C ret => ?_)
  show G x l (rmF 1 36) D 2 0 0 (wG cy g z0 P) [(0, .ref (g 0)), (1, .int (nI q))] [] 0
  refine g_iload_n C dX2_lastPage_0 1 rfl rfl ?_
  refine g_callIS C [] [0, 1, 2, 3, 4, 5, 6, 7] [0, 1, 2, 3, 4, 5, 6, 7] (As := [.int (nI q)]) (rest := []) (wr := (wG cy g z0 P)) (wf := fun _ => (wG cy g z0 P)) dX2_lastPage_1 gX2_lastPage_X2_isBucketPlace rfl dmX2_isBucketPlace ⟨rfl, rfl, Nat.le_of_ble_eq_true rfl, Nat.le_of_ble_eq_true rfl, Nat.zero_le _, Nat.zero_le _⟩ (c_X2_isBucketPlace l D cy cz (nI q)) ⟨rfl, rfl, rfl, rfl, by decide, rfl, fun _ => rfl⟩ (Nat.le_of_ble_eq_true rfl) ?_
  rintro _ - rfl
  show G x l (rmF 1 36) D 2 0 0 (wG cy g z0 P) [(0, .ref (g 0)), (1, .int (nI q))] [.int (inI 64 (nI q))] 4
  refine g_top (b := 1) (inI_nI (N := 64) hq (by decide)) ?_
  refine g_if_eq C (tgt := 16) dX2_lastPage_4 (by decide) (fun c1 => ?_) (fun c1 => ?_)
  · skip
    exact absurd c1 (by decide)
  · skip
    refine g_aload_n C dX2_lastPage_7 0 rfl rfl ?_
    refine g_get C 0 (f := 6) (v := .ref (g 7)) (Cn := RX2) (T := TX2) (N := 11) dX2_lastPage_8 rfl rfl iX2_lastPage_X2 (by decide) mX2_lastPage_f30 rfl ?_
    refine g_iload_n C dX2_lastPage_11 1 rfl rfl ?_
    refine g_iald C 7 0 (f := P 7) (N := 64) q dX2_lastPage_12 rfl rfl (by decide) (rfl) (by omega) ?_
    refine g_goto C (tgt := 18) dX2_lastPage_13 (by decide) ?_
    exact ret _ () _ _ dX2_lastPage_18 rfl

theorem mX2_keyIn_f9 : Cond.fieldLink RX2 9 (TX2 0).1 (TX2 0).2.1 (TX2 0).2.2.1 ∈ wsX2_keyIn := List.mem_of_getElem? (i := 1) rfl
theorem iX2_keyIn_X2 : ∀ w ∈ wsX20, w ∈ wsX2_keyIn := by decide +kernel
set_option maxHeartbeats 1600000 in
set_option maxRecDepth 20000 in
theorem c_X2_keyIn (l : Launch) (D : va_G) (cy cz : ClassId) (g : Nat → Nat) (z0 : Nat) (P : Mem) (q : Nat) (hq : q < 512) : MId l yX2_keyIn wsX2_keyIn (rmF 0 0) D (tyL cy cz) [.ref (g 0), .int (nI q)] (wG cy g z0 P) (P 1 q) (wG cy g z0 P) := by
  refine g_entI (cc := cX2_keyIn) (maxL := 2) (own := RX2) (by decide) rfl rfl (Nat.le_of_ble_eq_true rfl) (fun x C ret => ?_)
  show G x l (rmF 0 0) D 2 0 0 (wG cy g z0 P) [(0, .ref (g 0)), (1, .int (nI q))] [] 0
  refine g_iload_n C dX2_keyIn_0 1 rfl rfl ?_
  refine g_if_lt C (tgt := 22) dX2_keyIn_1 (by decide) (fun c1 => ?_) (fun c1 => ?_)
  · skip
    exact absurd c1 (nI_pos (by omega))
  · skip
    refine g_iload_n C dX2_keyIn_4 1 rfl rfl ?_
    refine g_aload_n C dX2_keyIn_5 0 rfl rfl ?_
    refine g_get C 0 (f := 0) (v := .ref (g 1)) (Cn := RX2) (T := TX2) (N := 11) dX2_keyIn_6 rfl rfl iX2_keyIn_X2 (by decide) mX2_keyIn_f9 rfl ?_
    refine g_alen C 1 0 (f := P 1) (N := 512) dX2_keyIn_9 rfl rfl ?_
    refine g_icmp_ge C (tgt := 22) dX2_keyIn_10 (by decide) (fun c2 => ?_) (fun c2 => ?_)
    · skip
      exact absurd c2 (nI_ge hq (by decide))
    · skip
      refine g_aload_n C dX2_keyIn_13 0 rfl rfl ?_
      refine g_get C 0 (f := 0) (v := .ref (g 1)) (Cn := RX2) (T := TX2) (N := 11) dX2_keyIn_14 rfl rfl iX2_keyIn_X2 (by decide) mX2_keyIn_f9 rfl ?_
      refine g_iload_n C dX2_keyIn_17 1 rfl rfl ?_
      refine g_iald C 1 0 (f := P 1) (N := 512) q dX2_keyIn_18 rfl rfl (by decide) (rfl) (by omega) ?_
      refine g_goto C (tgt := 24) dX2_keyIn_19 (by decide) ?_
      exact ret _ () _ _ dX2_keyIn_24 rfl

theorem mX2_valueIn_f15 : Cond.fieldLink RX2 15 (TX2 1).1 (TX2 1).2.1 (TX2 1).2.2.1 ∈ wsX2_valueIn := List.mem_of_getElem? (i := 1) rfl
theorem iX2_valueIn_X2 : ∀ w ∈ wsX20, w ∈ wsX2_valueIn := by decide +kernel
set_option maxHeartbeats 1600000 in
set_option maxRecDepth 20000 in
theorem c_X2_valueIn (l : Launch) (D : va_G) (cy cz : ClassId) (g : Nat → Nat) (z0 : Nat) (P : Mem) (q : Nat) (hq : q < 512) : MId l yX2_valueIn wsX2_valueIn (rmF 0 0) D (tyL cy cz) [.ref (g 0), .int (nI q)] (wG cy g z0 P) (P 2 q) (wG cy g z0 P) := by
  refine g_entI (cc := cX2_valueIn) (maxL := 2) (own := RX2) (by decide) rfl rfl (Nat.le_of_ble_eq_true rfl) (fun x C ret => ?_)
  show G x l (rmF 0 0) D 2 0 0 (wG cy g z0 P) [(0, .ref (g 0)), (1, .int (nI q))] [] 0
  refine g_iload_n C dX2_valueIn_0 1 rfl rfl ?_
  refine g_if_lt C (tgt := 22) dX2_valueIn_1 (by decide) (fun c1 => ?_) (fun c1 => ?_)
  · skip
    exact absurd c1 (nI_pos (by omega))
  · skip
    refine g_iload_n C dX2_valueIn_4 1 rfl rfl ?_
    refine g_aload_n C dX2_valueIn_5 0 rfl rfl ?_
    refine g_get C 0 (f := 1) (v := .ref (g 2)) (Cn := RX2) (T := TX2) (N := 11) dX2_valueIn_6 rfl rfl iX2_valueIn_X2 (by decide) mX2_valueIn_f15 rfl ?_
    refine g_alen C 2 0 (f := P 2) (N := 512) dX2_valueIn_9 rfl rfl ?_
    refine g_icmp_ge C (tgt := 22) dX2_valueIn_10 (by decide) (fun c2 => ?_) (fun c2 => ?_)
    · skip
      exact absurd c2 (nI_ge hq (by decide))
    · skip
      refine g_aload_n C dX2_valueIn_13 0 rfl rfl ?_
      refine g_get C 0 (f := 1) (v := .ref (g 2)) (Cn := RX2) (T := TX2) (N := 11) dX2_valueIn_14 rfl rfl iX2_valueIn_X2 (by decide) mX2_valueIn_f15 rfl ?_
      refine g_iload_n C dX2_valueIn_17 1 rfl rfl ?_
      refine g_iald C 2 0 (f := P 2) (N := 512) q dX2_valueIn_18 rfl rfl (by decide) (rfl) (by omega) ?_
      refine g_goto C (tgt := 24) dX2_valueIn_19 (by decide) ?_
      exact ret _ () _ _ dX2_valueIn_24 rfl

theorem mX2_addressOf_k60 : Cond.constant RX2 60 (-1640531527) ∈ wsX2_addressOf := List.mem_of_getElem? (i := 1) rfl
theorem mX2_addressOf_f50 : Cond.fieldLink RX2 50 (TX2 8).1 (TX2 8).2.1 (TX2 8).2.2.1 ∈ wsX2_addressOf := List.mem_of_getElem? (i := 2) rfl
theorem iX2_addressOf_X2 : ∀ w ∈ wsX20, w ∈ wsX2_addressOf := by decide +kernel
theorem mX2_addressOf_f54 : Cond.fieldLink RX2 54 (TX2 9).1 (TX2 9).2.1 (TX2 9).2.2.1 ∈ wsX2_addressOf := List.mem_of_getElem? (i := 3) rfl
set_option maxHeartbeats 1600000 in
set_option maxRecDepth 20000 in
theorem c_X2_addressOf (l : Launch) (D : va_G) (cy cz : ClassId) (g : Nat → Nat) (z0 : Nat) (P : Mem) (L : Nat) (S : Nat) (key : Int32) (hL : P 0 0 = nI L) (hS : P 0 1 = nI S) (h4 : L ≤ 4) (h5 : S ≤ 64) : MId l yX2_addressOf wsX2_addressOf (rmF 0 0) D (tyL cy cz) [.ref (g 0), .int key] (wG cy g z0 P) (nI (adr L S key)) (wG cy g z0 P) := by
  refine g_entI (cc := cX2_addressOf) (maxL := 4) (own := RX2) (by decide) rfl rfl (Nat.le_of_ble_eq_true rfl) (fun x C ret => ?_)
  show G x l (rmF 0 0) D 4 0 0 (wG cy g z0 P) [(0, .ref (g 0)), (1, .int key)] [] 0
  refine g_iload_n C dX2_addressOf_0 1 rfl rfl ?_
  refine g_ldc C (v := (-1640531527)) mX2_addressOf_k60 dX2_addressOf_1 ?_
  refine g_imul C dX2_addressOf_3 ?_
  refine g_istore_n C (lv' := [(2, .int (key * (-1640531527))), (0, .ref (g 0)), (1, .int key)]) dX2_addressOf_4 rfl (by decide) rfl ?_
  refine g_iload_n C dX2_addressOf_5 0 rfl rfl ?_
  refine g_iload_n C dX2_addressOf_6 0 rfl rfl ?_
  refine g_bipush C (v := 15) dX2_addressOf_7 (by decide) ?_
  refine g_iushr C dX2_addressOf_9 ?_
  refine g_ixor C dX2_addressOf_10 ?_
  refine g_top (b := hsh key) (rfl) ?_
  refine g_istore_n C (lv' := [(2, .int (hsh key)), (0, .ref (g 0)), (1, .int key)]) dX2_addressOf_11 rfl (by decide) rfl ?_
  refine g_iload_n C dX2_addressOf_12 0 rfl rfl ?_
  refine g_iconst C (v := 4) dX2_addressOf_13 (by decide) ?_
  refine g_aload_n C dX2_addressOf_14 1 rfl rfl ?_
  refine g_get C 0 (f := 8) (v := .int (P 0 0)) (Cn := RX2) (T := TX2) (N := 11) dX2_addressOf_15 rfl rfl iX2_addressOf_X2 (by decide) mX2_addressOf_f50 rfl ?_
  refine g_top (b := nI L) (hL) ?_
  refine g_ishl C dX2_addressOf_18 ?_
  refine g_iconst C (v := 1) dX2_addressOf_19 (by decide) ?_
  refine g_isub C dX2_addressOf_20 ?_
  refine g_iand C dX2_addressOf_21 ?_
  refine g_top (b := nI (hN key % 2 ^ (L + 2))) (adr_lo key h4) ?_
  refine g_istore_n C (lv' := [(3, .int (nI (hN key % 2 ^ (L + 2)))), (2, .int (hsh key)), (0, .ref (g 0)), (1, .int key)]) dX2_addressOf_22 rfl (by decide) rfl ?_
  refine g_iload_n C dX2_addressOf_23 0 rfl rfl ?_
  refine g_aload_n C dX2_addressOf_24 2 rfl rfl ?_
  refine g_get C 0 (f := 9) (v := .int (P 0 1)) (Cn := RX2) (T := TX2) (N := 11) dX2_addressOf_25 rfl rfl iX2_addressOf_X2 (by decide) mX2_addressOf_f54 rfl ?_
  refine g_top (b := nI S) (hS) ?_
  refine g_icmp_ge C (tgt := 45) dX2_addressOf_28 (by decide) (fun c1 => ?_) (fun c1 => ?_)
  · skip
    refine g_iload_n C dX2_addressOf_45 0 rfl rfl ?_
    exact ret _ () _ _ dX2_addressOf_46 (adr_t h4 h5 c1)
  · skip
    refine g_iload_n C dX2_addressOf_31 1 rfl rfl ?_
    refine g_bipush C (v := 8) dX2_addressOf_32 (by decide) ?_
    refine g_aload_n C dX2_addressOf_34 2 rfl rfl ?_
    refine g_get C 0 (f := 8) (v := .int (P 0 0)) (Cn := RX2) (T := TX2) (N := 11) dX2_addressOf_35 rfl rfl iX2_addressOf_X2 (by decide) mX2_addressOf_f50 rfl ?_
    refine g_top (b := nI L) (hL) ?_
    refine g_ishl C dX2_addressOf_38 ?_
    refine g_iconst C (v := 1) dX2_addressOf_39 (by decide) ?_
    refine g_isub C dX2_addressOf_40 ?_
    refine g_iand C dX2_addressOf_41 ?_
    refine g_top (b := nI (hN key % 2 ^ (L + 3))) (adr_hi key h4) ?_
    refine g_goto C (tgt := 46) dX2_addressOf_42 (by decide) ?_
    exact ret _ () _ _ dX2_addressOf_46 (adr_f h4 h5 c1)

theorem mX2_bucketOfPage_inX3_isPage : Cond.initialized yX3_isPage.cls ∈ wsX2_bucketOfPage := List.mem_of_getElem? (i := 4) rfl
theorem mX2_bucketOfPage_stX3_isPage : Cond.static yX3_isPage ∈ wsX2_bucketOfPage := List.mem_of_getElem? (i := 3) rfl
theorem mX2_bucketOfPage_f27 : Cond.fieldLink RX2 27 (TX2 5).1 (TX2 5).2.1 (TX2 5).2.2.1 ∈ wsX2_bucketOfPage := List.mem_of_getElem? (i := 2) rfl
theorem iX2_bucketOfPage_X2 : ∀ w ∈ wsX20, w ∈ wsX2_bucketOfPage := by decide +kernel
theorem mX2_bucketOfPage_k37 : Cond.constant RX2 37 (-2000000005) ∈ wsX2_bucketOfPage := List.mem_of_getElem? (i := 1) rfl
set_option maxHeartbeats 1600000 in
set_option maxRecDepth 20000 in
theorem c_X2_bucketOfPage (l : Launch) (D : va_G) (cy cz : ClassId) (g : Nat → Nat) (z0 : Nat) (P : Mem) (A : AS) (q : Nat) (hr : RP A P) (hq : q < 128) : MId l yX2_bucketOfPage wsX2_bucketOfPage (rmF 1 36) D (tyL cy cz) [.ref (g 0), .int (nI q)] (wG cy g z0 P) (if q < 64 then (if q < A.nb then nI q else vNONE) else P 6 q) (wG cy g z0 P) := by
  refine g_entI (cc := cX2_bucketOfPage) (maxL := 2) (own := RX2) (by decide) rfl rfl (Nat.le_of_ble_eq_true rfl) (fun x C ret => ?_)
  show G x l (rmF 1 36) D 2 0 0 (wG cy g z0 P) [(0, .ref (g 0)), (1, .int (nI q))] [] 0
  refine g_iload_n C dX2_bucketOfPage_0 1 rfl rfl ?_
  refine g_callIN C [] [0, 1, 2, 3, 4, 5, 6, 7] [0, 1, 2, 3, 4, 5, 6, 7] (As := [.int (nI q)]) (rest := []) (wr := (wG cy g z0 P)) (wf := fun _ => (wG cy g z0 P)) dX2_bucketOfPage_1 gX2_bucketOfPage_X3_isPage_n61 rfl dmX3_isPage ⟨rfl, rfl, Nat.le_of_ble_eq_true rfl, Nat.le_of_ble_eq_true rfl, Nat.zero_le _, Nat.zero_le _⟩ rfl mX2_bucketOfPage_inX3_isPage mX2_bucketOfPage_stX3_isPage (c_X3_isPage l D cy cz (nI q)) ⟨rfl, rfl, rfl, rfl, by decide, rfl, fun _ => rfl⟩ (Nat.le_of_ble_eq_true rfl) ?_
  rintro _ - rfl
  show G x l (rmF 1 36) D 2 0 0 (wG cy g z0 P) [(0, .ref (g 0)), (1, .int (nI q))] [.int (inI 128 (nI q))] 4
  refine g_top (b := 1) (inI_nI (N := 128) hq (by decide)) ?_
  refine g_if_ne C (tgt := 10) dX2_bucketOfPage_4 (by decide) (fun c1 => ?_) (fun c1 => ?_)
  · skip
    refine g_iload_n C dX2_bucketOfPage_10 1 rfl rfl ?_
    refine g_bipush C (v := 64) dX2_bucketOfPage_11 (by decide) ?_
    refine g_icmp_ge C (tgt := 31) dX2_bucketOfPage_13 (by decide) (fun c2 => ?_) (fun c2 => ?_)
    · skip
      refine g_aload_n C dX2_bucketOfPage_31 0 rfl rfl ?_
      refine g_get C 0 (f := 5) (v := .ref (g 6)) (Cn := RX2) (T := TX2) (N := 11) dX2_bucketOfPage_32 rfl rfl iX2_bucketOfPage_X2 (by decide) mX2_bucketOfPage_f27 rfl ?_
      refine g_iload_n C dX2_bucketOfPage_35 1 rfl rfl ?_
      refine g_iald C 6 0 (f := P 6) (N := 128) q dX2_bucketOfPage_36 rfl rfl (by decide) (rfl) (by omega) ?_
      exact ret _ () _ _ dX2_bucketOfPage_37 (by rw [if_neg (fun w => absurd c2 (nI_ge w (by decide)))])
    · skip
      refine g_iload_n C dX2_bucketOfPage_16 1 rfl rfl ?_
      refine g_aload_n C dX2_bucketOfPage_17 0 rfl rfl ?_
      refine g_callIV C [0, 1, 2, 3, 4, 5, 6, 7] [] [0, 1, 2, 3, 4, 5, 6, 7] 0 2 (b := g 0) rfl rfl (As := []) (rest := [.int (nI q)]) (wr := ([] : va_W)) (wf := fun _ => (wG cy g z0 P)) dX2_bucketOfPage_18 gX2_bucketOfPage_X2_bucketCount rfl dmX2_bucketCount ⟨rfl, rfl, Nat.le_of_ble_eq_true rfl, Nat.le_of_ble_eq_true rfl, Nat.zero_le _, Nat.zero_le _⟩ (c_X2_bucketCount l D cy cz g z0 P) ⟨rfl, rfl, rfl, rfl, by decide, rfl, fun _ => rfl⟩ (Nat.le_of_ble_eq_true rfl) ?_
      rintro _ - rfl
      show G x l (rmF 1 36) D 2 0 0 (wG cy g z0 P) [(0, .ref (g 0)), (1, .int (nI q))] [.int ((4 <<< (P 0 0 &&& 31)) + P 0 1), .int (nI q)] 21
      refine g_top (b := nI A.nb) (hr.nb) ?_
      refine g_icmp_ge C (tgt := 28) dX2_bucketOfPage_21 (by decide) (fun c3 => ?_) (fun c3 => ?_)
      · skip
        refine g_ldc C (v := vNONE) mX2_bucketOfPage_k37 dX2_bucketOfPage_28 ?_
        exact ret _ () _ _ dX2_bucketOfPage_30 (by rw [if_pos (show q < 64 from Nat.lt_of_not_le (fun w => c2 (nI_le w (by omega)))), if_neg (fun w => absurd c3 (nI_ge w (by have := hr.nb64; omega)))])
      · skip
        refine g_iload_n C dX2_bucketOfPage_24 1 rfl rfl ?_
        refine g_goto C (tgt := 30) dX2_bucketOfPage_25 (by decide) ?_
        exact ret _ () _ _ dX2_bucketOfPage_30 (by rw [if_pos (show q < 64 from Nat.lt_of_not_le (fun w => c2 (nI_le w (by omega)))), if_pos (show q < A.nb from Nat.lt_of_not_le (fun w => c3 (nI_le w (by omega))))])
  · skip
    exact absurd c1 (by decide)

theorem mX2_pagesInChain_inX3_isPage : Cond.initialized yX3_isPage.cls ∈ wsX2_pagesInChain := List.mem_of_getElem? (i := 3) rfl
theorem mX2_pagesInChain_stX3_isPage : Cond.static yX3_isPage ∈ wsX2_pagesInChain := List.mem_of_getElem? (i := 2) rfl
theorem mX2_pagesInChain_f21 : Cond.fieldLink RX2 21 (TX2 3).1 (TX2 3).2.1 (TX2 3).2.2.1 ∈ wsX2_pagesInChain := List.mem_of_getElem? (i := 1) rfl
theorem iX2_pagesInChain_X2 : ∀ w ∈ wsX20, w ∈ wsX2_pagesInChain := by decide +kernel
set_option maxHeartbeats 1600000 in
set_option maxRecDepth 20000 in
theorem c_X2_pagesInChain (l : Launch) (D : va_G) (cy cz : ClassId) (g : Nat → Nat) (z0 : Nat) (P : Mem) (b : Nat) (t : List Nat) (h1 : isCh (P 4) (b :: t)) (h2 : t.length + 1 ≤ 128) : MId l yX2_pagesInChain wsX2_pagesInChain (rmF 1 36) D (tyL cy cz) [.ref (g 0), .int (nI b)] (wG cy g z0 P) (nI (t.length + 1)) (wG cy g z0 P) := by
  refine g_entI (cc := cX2_pagesInChain) (maxL := 4) (own := RX2) (by decide) rfl rfl (Nat.le_of_ble_eq_true rfl) (fun x C ret => ?_)
  show G x l (rmF 1 36) D 4 0 0 (wG cy g z0 P) [(0, .ref (g 0)), (1, .int (nI b))] [] 0
  refine g_iconst C (v := 0) dX2_pagesInChain_0 (by decide) ?_
  refine g_istore_n C (lv' := [(2, .int 0), (0, .ref (g 0)), (1, .int (nI b))]) dX2_pagesInChain_1 rfl (by decide) rfl ?_
  refine g_iload_n C dX2_pagesInChain_2 2 rfl rfl ?_
  refine g_istore_n C (lv' := [(3, .int (nI b)), (2, .int 0), (0, .ref (g 0)), (1, .int (nI b))]) dX2_pagesInChain_3 rfl (by decide) rfl ?_
  refine g_lv (lv' := [(2, .int 0), (3, .int (nI b)), (0, .ref (g 0)), (1, .int (nI b))]) [1, 0, 2, 3] rfl ?_
  refine g_loop (σ := List Nat × Nat) (fun (a : List Nat × Nat) => match a with | (r, d) => (wG cy g z0 P)) (fun (a : List Nat × Nat) => match a with | (r, d) => [(2, .int (nI d)), (3, .int (hdI r)), (0, .ref (g 0)), (1, .int (nI b))]) (fun (a : List Nat × Nat) => match a with | (r, d) => (isCh (P 4) r) ∧ (r.length + d = t.length + 1)) (fun (a : List Nat × Nat) => match a with | (r, d) => r.length) ?_ (b :: t, 0) (⟨h1, rfl⟩)
  intro a hI ih
  obtain ⟨r, d⟩ := a
  obtain ⟨i1, i2⟩ : (isCh (P 4) r) ∧ (r.length + d = t.length + 1) := hI
  show G x l (rmF 1 36) D 4 0 0 (wG cy g z0 P) [(2, .int (nI d)), (3, .int (hdI r)), (0, .ref (g 0)), (1, .int (nI b))] [] 4
  rcases r with _ | ⟨q, r⟩
  · skip
    have i2 : d = t.length + 1 := by simpa using i2
    show G x l (rmF 1 36) D 4 0 0 (wG cy g z0 P) [(2, .int (nI d)), (3, .int vNONE), (0, .ref (g 0)), (1, .int (nI b))] [] 4
    refine g_iload_n C dX2_pagesInChain_4 0 rfl rfl ?_
    refine g_sipush C (v := 128) dX2_pagesInChain_5 (by decide) ?_
    refine g_icmp_ge C (tgt := 31) dX2_pagesInChain_8 (by decide) (fun c1 => ?_) (fun c1 => ?_)
    · skip
      refine g_iload_n C dX2_pagesInChain_31 0 rfl rfl ?_
      exact ret _ () _ _ dX2_pagesInChain_32 (by rw [i2])
    · skip
      refine g_iload_n C dX2_pagesInChain_11 1 rfl rfl ?_
      refine g_callIN C [] [0, 1, 2, 3, 4, 5, 6, 7] [0, 1, 2, 3, 4, 5, 6, 7] (As := [.int vNONE]) (rest := []) (wr := (wG cy g z0 P)) (wf := fun _ => (wG cy g z0 P)) dX2_pagesInChain_12 gX2_pagesInChain_X3_isPage_n61 rfl dmX3_isPage ⟨rfl, rfl, Nat.le_of_ble_eq_true rfl, Nat.le_of_ble_eq_true rfl, Nat.zero_le _, Nat.zero_le _⟩ rfl mX2_pagesInChain_inX3_isPage mX2_pagesInChain_stX3_isPage (c_X3_isPage l D cy cz vNONE) ⟨rfl, rfl, rfl, rfl, by decide, rfl, fun _ => rfl⟩ (Nat.le_of_ble_eq_true rfl) ?_
      rintro _ - rfl
      show G x l (rmF 1 36) D 4 0 0 (wG cy g z0 P) [(2, .int (nI d)), (3, .int vNONE), (0, .ref (g 0)), (1, .int (nI b))] [.int (inI 128 vNONE)] 15
      refine g_top (b := 0) (inI_NONE _) ?_
      refine g_if_eq C (tgt := 31) dX2_pagesInChain_15 (by decide) (fun c1 => ?_) (fun c1 => ?_)
      · skip
        refine g_iload_n C dX2_pagesInChain_31 0 rfl rfl ?_
        exact ret _ () _ _ dX2_pagesInChain_32 (by rw [i2])
      · skip
        exact absurd rfl (c1)
  · skip
    obtain ⟨hq, hn, i1⟩ := i1
    have i2 : r.length + 1 + d = t.length + 1 := by simpa using i2
    show G x l (rmF 1 36) D 4 0 0 (wG cy g z0 P) [(2, .int (nI d)), (3, .int (nI q)), (0, .ref (g 0)), (1, .int (nI b))] [] 4
    refine g_iload_n C dX2_pagesInChain_4 0 rfl rfl ?_
    refine g_sipush C (v := 128) dX2_pagesInChain_5 (by decide) ?_
    refine g_icmp_ge C (tgt := 31) dX2_pagesInChain_8 (by decide) (fun c2 => ?_) (fun c2 => ?_)
    · skip
      exact absurd c2 (nI_ge (a := d) (b := 128) (by omega) (by decide))
    · skip
      refine g_iload_n C dX2_pagesInChain_11 1 rfl rfl ?_
      refine g_callIN C [] [0, 1, 2, 3, 4, 5, 6, 7] [0, 1, 2, 3, 4, 5, 6, 7] (As := [.int (nI q)]) (rest := []) (wr := (wG cy g z0 P)) (wf := fun _ => (wG cy g z0 P)) dX2_pagesInChain_12 gX2_pagesInChain_X3_isPage_n61 rfl dmX3_isPage ⟨rfl, rfl, Nat.le_of_ble_eq_true rfl, Nat.le_of_ble_eq_true rfl, Nat.zero_le _, Nat.zero_le _⟩ rfl mX2_pagesInChain_inX3_isPage mX2_pagesInChain_stX3_isPage (c_X3_isPage l D cy cz (nI q)) ⟨rfl, rfl, rfl, rfl, by decide, rfl, fun _ => rfl⟩ (Nat.le_of_ble_eq_true rfl) ?_
      rintro _ - rfl
      show G x l (rmF 1 36) D 4 0 0 (wG cy g z0 P) [(2, .int (nI d)), (3, .int (nI q)), (0, .ref (g 0)), (1, .int (nI b))] [.int (inI 128 (nI q))] 15
      refine g_top (b := 1) (inI_nI (N := 128) hq (by decide)) ?_
      refine g_if_eq C (tgt := 31) dX2_pagesInChain_15 (by decide) (fun c1 => ?_) (fun c1 => ?_)
      · skip
        exact absurd c1 (by decide)
      · skip
        refine g_iinc C (q := 0) (v := nI (d + 1)) (lv' := [(2, .int (nI (d + 1))), (3, .int (nI q)), (0, .ref (g 0)), (1, .int (nI b))]) dX2_pagesInChain_18 rfl (nI_1 d) (by decide) rfl ?_
        refine g_aload_n C dX2_pagesInChain_21 2 rfl rfl ?_
        refine g_get C 0 (f := 3) (v := .ref (g 4)) (Cn := RX2) (T := TX2) (N := 11) dX2_pagesInChain_22 rfl rfl iX2_pagesInChain_X2 (by decide) mX2_pagesInChain_f21 rfl ?_
        refine g_iload_n C dX2_pagesInChain_25 1 rfl rfl ?_
        refine g_iald C 4 0 (f := P 4) (N := 128) q dX2_pagesInChain_26 rfl rfl (by decide) (rfl) (by omega) ?_
        refine g_top (b := hdI r) (hn) ?_
        refine g_istore_n C (lv' := [(3, .int (hdI r)), (2, .int (nI (d + 1))), (0, .ref (g 0)), (1, .int (nI b))]) dX2_pagesInChain_27 rfl (by decide) rfl ?_
        refine g_goto C (tgt := 4) dX2_pagesInChain_28 (by decide) ?_
        refine g_lv (lv' := [(2, .int (nI (d + 1))), (3, .int (hdI r)), (0, .ref (g 0)), (1, .int (nI b))]) [1, 0, 2, 3] rfl ?_
        exact ih (r, d + 1) ⟨i1, by omega⟩ (Nat.lt_succ_self _)

set_option maxHeartbeats 1600000 in
set_option maxRecDepth 20000 in
theorem c_X2_entriesInChain (l : Launch) (D : va_G) (cy cz : ClassId) (g : Nat → Nat) (z0 : Nat) (P : Mem) (A : AS) (b : Nat) (hr : RC A P) (hb : b < 64) : MId l yX2_entriesInChain wsX2_entriesInChain (rmF 2 72) D (tyL cy cz) [.ref (g 0), .int (nI b)] (wG cy g z0 P) (nI ((A.tl b).length * 4 + A.sz (A.la b))) (wG cy g z0 P) := by
  refine g_entI (cc := cX2_entriesInChain) (maxL := 2) (own := RX2) (by decide) rfl rfl (Nat.le_of_ble_eq_true rfl) (fun x C ret => ?_)
  show G x l (rmF 2 72) D 2 0 0 (wG cy g z0 P) [(0, .ref (g 0)), (1, .int (nI b))] [] 0
  refine g_aload_n C dX2_entriesInChain_0 0 rfl rfl ?_
  refine g_iload_n C dX2_entriesInChain_1 1 rfl rfl ?_
  refine g_callIV C [0, 1, 2, 3, 4, 5, 6, 7] [] [0, 1, 2, 3, 4, 5, 6, 7] 0 2 (b := g 0) rfl rfl (As := [.int (nI b)]) (rest := []) (wr := ([] : va_W)) (wf := fun _ => (wG cy g z0 P)) dX2_entriesInChain_2 gX2_entriesInChain_X2_pagesInChain rfl dmX2_pagesInChain ⟨rfl, rfl, Nat.le_of_ble_eq_true rfl, Nat.le_of_ble_eq_true rfl, Nat.zero_le _, Nat.zero_le _⟩ (c_X2_pagesInChain l D cy cz g z0 P b (A.tl b) (hr.chain hb) (by have := hr.1.len hb; omega)) ⟨rfl, rfl, rfl, rfl, by decide, rfl, fun _ => rfl⟩ (Nat.le_of_ble_eq_true rfl) ?_
  rintro _ - rfl
  show G x l (rmF 2 72) D 2 0 0 (wG cy g z0 P) [(0, .ref (g 0)), (1, .int (nI b))] [.int (nI ((A.tl b).length + 1))] 5
  refine g_iconst C (v := 1) dX2_entriesInChain_5 (by decide) ?_
  refine g_isub C dX2_entriesInChain_6 ?_
  refine g_top (b := nI (A.tl b).length) (nI_pred _) ?_
  refine g_iconst C (v := 4) dX2_entriesInChain_7 (by decide) ?_
  refine g_imul C dX2_entriesInChain_8 ?_
  refine g_top (b := nI ((A.tl b).length * 4)) (pk_mul _ 4) ?_
  refine g_aload_n C dX2_entriesInChain_9 0 rfl rfl ?_
  refine g_aload_n C dX2_entriesInChain_10 0 rfl rfl ?_
  refine g_iload_n C dX2_entriesInChain_11 1 rfl rfl ?_
  refine g_callIV C [0, 1, 2, 3, 4, 5, 6, 7] [] [0, 1, 2, 3, 4, 5, 6, 7] 0 2 (b := g 0) rfl rfl (As := [.int (nI b)]) (rest := [.ref (g 0), .int (nI ((A.tl b).length * 4))]) (wr := ([] : va_W)) (wf := fun _ => (wG cy g z0 P)) dX2_entriesInChain_12 gX2_entriesInChain_X2_lastPage rfl dmX2_lastPage ⟨rfl, rfl, Nat.le_of_ble_eq_true rfl, Nat.le_of_ble_eq_true rfl, Nat.zero_le _, Nat.zero_le _⟩ (c_X2_lastPage l D cy cz g z0 P b hb) ⟨rfl, rfl, rfl, rfl, by decide, rfl, fun _ => rfl⟩ (Nat.le_of_ble_eq_true rfl) ?_
  rintro _ - rfl
  show G x l (rmF 2 72) D 2 0 0 (wG cy g z0 P) [(0, .ref (g 0)), (1, .int (nI b))] [.int (P 7 b), .ref (g 0), .int (nI ((A.tl b).length * 4))] 15
  refine g_top (b := nI (A.la b)) (hr.last hb) ?_
  refine g_callIV C [0, 1, 2, 3, 4, 5, 6, 7] [] [0, 1, 2, 3, 4, 5, 6, 7] 0 2 (b := g 0) rfl rfl (As := [.int (nI (A.la b))]) (rest := [.int (nI ((A.tl b).length * 4))]) (wr := ([] : va_W)) (wf := fun _ => (wG cy g z0 P)) dX2_entriesInChain_15 gX2_entriesInChain_X2_entriesOnPage rfl dmX2_entriesOnPage ⟨rfl, rfl, Nat.le_of_ble_eq_true rfl, Nat.le_of_ble_eq_true rfl, Nat.zero_le _, Nat.zero_le _⟩ (c_X2_entriesOnPage l D cy cz g z0 P (A.la b) (hr.la hb)) ⟨rfl, rfl, rfl, rfl, by decide, rfl, fun _ => rfl⟩ (Nat.le_of_ble_eq_true rfl) ?_
  rintro _ - rfl
  show G x l (rmF 2 72) D 2 0 0 (wG cy g z0 P) [(0, .ref (g 0)), (1, .int (nI b))] [.int (P 3 (A.la b)), .int (nI ((A.tl b).length * 4))] 18
  refine g_top (b := nI (A.sz (A.la b))) (hr.used (hr.la hb)) ?_
  refine g_iadd C dX2_entriesInChain_18 ?_
  refine g_top (b := nI ((A.tl b).length * 4 + A.sz (A.la b))) (nI_add _ _) ?_
  exact ret _ () _ _ dX2_entriesInChain_19 rfl

theorem mX2_leastFreePage_k37 : Cond.constant RX2 37 (-2000000005) ∈ wsX2_leastFreePage := List.mem_of_getElem? (i := 2) rfl
theorem mX2_leastFreePage_f27 : Cond.fieldLink RX2 27 (TX2 5).1 (TX2 5).2.1 (TX2 5).2.2.1 ∈ wsX2_leastFreePage := List.mem_of_getElem? (i := 1) rfl
theorem iX2_leastFreePage_X2 : ∀ w ∈ wsX20, w ∈ wsX2_leastFreePage := by decide +kernel
set_option maxHeartbeats 1600000 in
set_option maxRecDepth 20000 in
theorem c_X2_leastFreePage (l : Launch) (D : va_G) (cy cz : ClassId) (g : Nat → Nat) (z0 : Nat) (P : Mem) (A : AS) (hr : RC A P) : MId l yX2_leastFreePage wsX2_leastFreePage (rmF 0 0) D (tyL cy cz) [.ref (g 0)] (wG cy g z0 P) (ocI A.lf) (wG cy g z0 P) := by
  refine g_entI (cc := cX2_leastFreePage) (maxL := 2) (own := RX2) (by decide) rfl rfl (Nat.le_of_ble_eq_true rfl) (fun x C ret => ?_)
  show G x l (rmF 0 0) D 2 0 0 (wG cy g z0 P) [(0, .ref (g 0))] [] 0
  refine g_bipush C (v := 64) dX2_leastFreePage_0 (by decide) ?_
  refine g_istore_n C (lv' := [(1, .int 64), (0, .ref (g 0))]) dX2_leastFreePage_2 rfl (by decide) rfl ?_
  refine g_loop (σ := Nat) (fun (a : Nat) => match a with | p => (wG cy g z0 P)) (fun (a : Nat) => match a with | p => [(1, .int (nI p)), (0, .ref (g 0))]) (fun (a : Nat) => match a with | p => (64 ≤ p) ∧ (p ≤ 128) ∧ (A.lf = lfrF A.fr (128 - p) p)) (fun (a : Nat) => match a with | p => 128 - p) ?_ 64 (⟨by decide, by decide, rfl⟩)
  intro a hI ih
  obtain ⟨p, rfl⟩ : ∃ z, z = a := ⟨_, rfl⟩
  obtain ⟨i1, i2, i3⟩ : (64 ≤ p) ∧ (p ≤ 128) ∧ (A.lf = lfrF A.fr (128 - p) p) := hI
  show G x l (rmF 0 0) D 2 0 0 (wG cy g z0 P) [(1, .int (nI p)), (0, .ref (g 0))] [] 3
  refine g_iload_n C dX2_leastFreePage_3 0 rfl rfl ?_
  refine g_sipush C (v := 128) dX2_leastFreePage_4 (by decide) ?_
  refine g_icmp_ge C (tgt := 29) dX2_leastFreePage_7 (by decide) (fun c1 => ?_) (fun c1 => ?_)
  · skip
    refine g_ldc C (v := vNONE) mX2_leastFreePage_k37 dX2_leastFreePage_29 ?_
    exact ret _ () _ _ dX2_leastFreePage_31 (by rw [i3, show p = 128 by have := (nI_leI (a := 128) (b := p) (by decide) (by omega)).mp c1; omega]; rfl)
  · skip
    have h1 : p < 128 := Nat.lt_of_not_le (fun w => c1 (nI_le w (by omega)))
    refine g_aload_n C dX2_leastFreePage_10 1 rfl rfl ?_
    refine g_get C 0 (f := 5) (v := .ref (g 6)) (Cn := RX2) (T := TX2) (N := 11) dX2_leastFreePage_11 rfl rfl iX2_leastFreePage_X2 (by decide) mX2_leastFreePage_f27 rfl ?_
    refine g_iload_n C dX2_leastFreePage_14 0 rfl rfl ?_
    refine g_iald C 6 0 (f := P 6) (N := 128) p dX2_leastFreePage_15 rfl rfl (by decide) (rfl) (h1) ?_
    refine g_ldc C (v := vNONE) mX2_leastFreePage_k37 dX2_leastFreePage_16 ?_
    refine g_icmp_ne C (tgt := 23) dX2_leastFreePage_18 (by decide) (fun c2 => ?_) (fun c2 => ?_)
    · skip
      refine g_iinc C (q := 0) (v := nI (p + 1)) (lv' := [(1, .int (nI (p + 1))), (0, .ref (g 0))]) dX2_leastFreePage_23 rfl (nI_1 p) (by decide) rfl ?_
      refine g_goto C (tgt := 3) dX2_leastFreePage_26 (by decide) ?_
      exact ih (p + 1) ⟨by omega, by omega, by rw [i3]; exact lfrF_miss h1 (fun w => c2 ((hr.hold i1 h1).mpr w))⟩ (by show 128 - (p + 1) < 128 - p; omega)
    · skip
      refine g_iload_n C dX2_leastFreePage_21 0 rfl rfl ?_
      exact ret _ () _ _ dX2_leastFreePage_22 (by rw [i3, lfrF_hit h1 ((hr.hold i1 h1).mp c2)]; rfl)

theorem mX2_freePages_f27 : Cond.fieldLink RX2 27 (TX2 5).1 (TX2 5).2.1 (TX2 5).2.2.1 ∈ wsX2_freePages := List.mem_of_getElem? (i := 1) rfl
theorem iX2_freePages_X2 : ∀ w ∈ wsX20, w ∈ wsX2_freePages := by decide +kernel
theorem mX2_freePages_k37 : Cond.constant RX2 37 (-2000000005) ∈ wsX2_freePages := List.mem_of_getElem? (i := 2) rfl
set_option maxHeartbeats 1600000 in
set_option maxRecDepth 20000 in
theorem c_X2_freePages (l : Launch) (D : va_G) (cy cz : ClassId) (g : Nat → Nat) (z0 : Nat) (P : Mem) (A : AS) (hr : RC A P) : MId l yX2_freePages wsX2_freePages (rmF 0 0) D (tyL cy cz) [.ref (g 0)] (wG cy g z0 P) (nI A.fc) (wG cy g z0 P) := by
  refine g_entI (cc := cX2_freePages) (maxL := 3) (own := RX2) (by decide) rfl rfl (Nat.le_of_ble_eq_true rfl) (fun x C ret => ?_)
  show G x l (rmF 0 0) D 3 0 0 (wG cy g z0 P) [(0, .ref (g 0))] [] 0
  refine g_iconst C (v := 0) dX2_freePages_0 (by decide) ?_
  refine g_istore_n C (lv' := [(1, .int 0), (0, .ref (g 0))]) dX2_freePages_1 rfl (by decide) rfl ?_
  refine g_bipush C (v := 64) dX2_freePages_2 (by decide) ?_
  refine g_istore_n C (lv' := [(2, .int 64), (1, .int 0), (0, .ref (g 0))]) dX2_freePages_4 rfl (by decide) rfl ?_
  refine g_lv (lv' := [(1, .int 0), (2, .int 64), (0, .ref (g 0))]) [1, 0, 2] rfl ?_
  refine g_loop (σ := Nat × Nat) (fun (a : Nat × Nat) => match a with | (p, n) => (wG cy g z0 P)) (fun (a : Nat × Nat) => match a with | (p, n) => [(1, .int (nI n)), (2, .int (nI p)), (0, .ref (g 0))]) (fun (a : Nat × Nat) => match a with | (p, n) => (64 ≤ p) ∧ (p ≤ 128) ∧ (A.fc = n + frcF A.fr (128 - p) p)) (fun (a : Nat × Nat) => match a with | (p, n) => 128 - p) ?_ (64, 0) (⟨by decide, by decide, (Nat.zero_add _).symm⟩)
  intro a hI ih
  obtain ⟨p, n⟩ := a
  obtain ⟨i1, i2, i3⟩ : (64 ≤ p) ∧ (p ≤ 128) ∧ (A.fc = n + frcF A.fr (128 - p) p) := hI
  show G x l (rmF 0 0) D 3 0 0 (wG cy g z0 P) [(1, .int (nI n)), (2, .int (nI p)), (0, .ref (g 0))] [] 5
  refine g_iload_n C dX2_freePages_5 1 rfl rfl ?_
  refine g_sipush C (v := 128) dX2_freePages_6 (by decide) ?_
  refine g_icmp_ge C (tgt := 32) dX2_freePages_9 (by decide) (fun c1 => ?_) (fun c1 => ?_)
  · skip
    refine g_iload_n C dX2_freePages_32 0 rfl rfl ?_
    exact ret _ () _ _ dX2_freePages_33 (by rw [i3, show p = 128 by have := (nI_leI (a := 128) (b := p) (by decide) (by omega)).mp c1; omega]; rfl)
  · skip
    have h1 : p < 128 := Nat.lt_of_not_le (fun w => c1 (nI_le w (by omega)))
    refine g_aload_n C dX2_freePages_12 2 rfl rfl ?_
    refine g_get C 0 (f := 5) (v := .ref (g 6)) (Cn := RX2) (T := TX2) (N := 11) dX2_freePages_13 rfl rfl iX2_freePages_X2 (by decide) mX2_freePages_f27 rfl ?_
    refine g_iload_n C dX2_freePages_16 1 rfl rfl ?_
    refine g_iald C 6 0 (f := P 6) (N := 128) p dX2_freePages_17 rfl rfl (by decide) (rfl) (h1) ?_
    refine g_ldc C (v := vNONE) mX2_freePages_k37 dX2_freePages_18 ?_
    refine g_icmp_ne C (tgt := 26) dX2_freePages_20 (by decide) (fun c2 => ?_) (fun c2 => ?_)
    · skip
      refine g_iinc C (q := 1) (v := nI (p + 1)) (lv' := [(2, .int (nI (p + 1))), (1, .int (nI n)), (0, .ref (g 0))]) dX2_freePages_26 rfl (nI_1 p) (by decide) rfl ?_
      refine g_goto C (tgt := 5) dX2_freePages_29 (by decide) ?_
      refine g_lv (lv' := [(1, .int (nI n)), (2, .int (nI (p + 1))), (0, .ref (g 0))]) [1, 0, 2] rfl ?_
      exact ih (p + 1, n) ⟨by omega, by omega, by rw [i3, frcF_step h1, if_neg (fun w => c2 ((hr.hold i1 h1).mpr w)), Nat.zero_add]⟩ (by show 128 - (p + 1) < 128 - p; omega)
    · skip
      refine g_iinc C (q := 0) (v := nI (n + 1)) (lv' := [(1, .int (nI (n + 1))), (2, .int (nI p)), (0, .ref (g 0))]) dX2_freePages_23 rfl (nI_1 n) (by decide) rfl ?_
      refine g_iinc C (q := 1) (v := nI (p + 1)) (lv' := [(2, .int (nI (p + 1))), (1, .int (nI (n + 1))), (0, .ref (g 0))]) dX2_freePages_26 rfl (nI_1 p) (by decide) rfl ?_
      refine g_goto C (tgt := 5) dX2_freePages_29 (by decide) ?_
      refine g_lv (lv' := [(1, .int (nI (n + 1))), (2, .int (nI (p + 1))), (0, .ref (g 0))]) [1, 0, 2] rfl ?_
      exact ih (p + 1, n + 1) ⟨by omega, by omega, by rw [i3, frcF_step h1, if_pos ((hr.hold i1 h1).mp c2)]; omega⟩ (by show 128 - (p + 1) < 128 - p; omega)
