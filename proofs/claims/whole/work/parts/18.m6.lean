/-! made by wip/whole/gen.py and m1.py -/
theorem sub_add_nI (x : Int32) (n : Nat) : x - nI n + nI n = x := Int32.sub_add_cancel x (nI n)
theorem mX2_canJoin_l82 : Cond.methodLink RX2 82 Lib.Math.max.name ∈ wsX2_canJoin := List.mem_of_getElem? (i := 1) rfl
theorem mX2_canJoin_s82 : Cond.static Lib.Math.max.name ∈ wsX2_canJoin := List.mem_of_getElem? (i := 2) rfl
theorem mX2_canJoin_i82 : Cond.initialized "java/lang/Math" ∈ wsX2_canJoin := List.mem_of_getElem? (i := 3) rfl
theorem mX2_canJoin_c82 : Cond.code Lib.Math.max.name Lib.Math.max.code 2 (some .int) ∈ wsX2_canJoin := List.mem_of_getElem? (i := 4) rfl
set_option maxHeartbeats 1600000 in
set_option maxRecDepth 20000 in
theorem c_X2_canJoin (l : Launch) (D : va_G) (cy cz : ClassId) (g : Nat → Nat) (z0 : Nat) (P : Mem) (A : AS) (s : Nat) (t : Nat) (hr : RC A P) (hs : s < 64) (ht : t < 64) : MId l yX2_canJoin wsX2_canJoin (rmF 2 72) D (tyL cy cz) [.ref (g 0), .int (nI s), .int (nI t)] (wG cy g z0 P) (if A.can s t then 1 else 0) (wG cy g z0 P) := by
  refine g_entZ (cc := cX2_canJoin) (maxL := 6) (own := RX2) (by decide) rfl rfl (Nat.le_of_ble_eq_true rfl) (fun x C ret => ?_)
  show G x l (rmF 2 72) D 6 0 0 (wG cy g z0 P) [(0, .ref (g 0)), (1, .int (nI s)), (2, .int (nI t))] [] 0
  have l1 := hr.1.len hs
  have l2 := hr.1.len ht
  have z1 := hr.sz4 (hr.la hs)
  have z2 := hr.sz4 (hr.la ht)
  have hfc : A.fc ≤ 64 := frcF_le 64 64
  refine g_aload_n C dX2_canJoin_0 0 rfl rfl ?_
  refine g_iload_n C dX2_canJoin_1 1 rfl rfl ?_
  refine g_callIV C [0, 1, 2, 3, 4, 5, 6, 7] [] [0, 1, 2, 3, 4, 5, 6, 7] 0 2 (b := g 0) rfl rfl (As := [.int (nI s)]) (rest := []) (wr := ([] : va_W)) (wf := fun _ => (wG cy g z0 P)) dX2_canJoin_2 gX2_canJoin_X2_pagesInChain rfl dmX2_pagesInChain ⟨rfl, rfl, Nat.le_of_ble_eq_true rfl, Nat.le_of_ble_eq_true rfl, Nat.zero_le _, Nat.zero_le _⟩ (c_X2_pagesInChain l D cy cz g z0 P s (A.tl s) (hr.chain hs) (by omega)) ⟨rfl, rfl, rfl, rfl, by decide, rfl, fun _ => rfl⟩ (Nat.le_of_ble_eq_true rfl) ?_
  rintro _ - rfl
  show G x l (rmF 2 72) D 6 0 0 (wG cy g z0 P) [(0, .ref (g 0)), (1, .int (nI s)), (2, .int (nI t))] [.int (nI ((A.tl s).length + 1))] 5
  refine g_aload_n C dX2_canJoin_5 0 rfl rfl ?_
  refine g_iload_n C dX2_canJoin_6 2 rfl rfl ?_
  refine g_callIV C [0, 1, 2, 3, 4, 5, 6, 7] [] [0, 1, 2, 3, 4, 5, 6, 7] 0 2 (b := g 0) rfl rfl (As := [.int (nI t)]) (rest := [.int (nI ((A.tl s).length + 1))]) (wr := ([] : va_W)) (wf := fun _ => (wG cy g z0 P)) dX2_canJoin_7 gX2_canJoin_X2_pagesInChain rfl dmX2_pagesInChain ⟨rfl, rfl, Nat.le_of_ble_eq_true rfl, Nat.le_of_ble_eq_true rfl, Nat.zero_le _, Nat.zero_le _⟩ (c_X2_pagesInChain l D cy cz g z0 P t (A.tl t) (hr.chain ht) (by omega)) ⟨rfl, rfl, rfl, rfl, by decide, rfl, fun _ => rfl⟩ (Nat.le_of_ble_eq_true rfl) ?_
  rintro _ - rfl
  show G x l (rmF 2 72) D 6 0 0 (wG cy g z0 P) [(0, .ref (g 0)), (1, .int (nI s)), (2, .int (nI t))] [.int (nI ((A.tl t).length + 1)), .int (nI ((A.tl s).length + 1))] 10
  refine g_iadd C dX2_canJoin_10 ?_
  refine g_top (b := nI ((A.tl s).length + 1 + ((A.tl t).length + 1))) (nI_add _ _) ?_
  refine g_iconst C (v := 2) dX2_canJoin_11 (by decide) ?_
  refine g_isub C dX2_canJoin_12 ?_
  refine g_top (b := nI ((A.tl s).length + (A.tl t).length)) ((pk_sub (b := 2) (by omega)).trans (congrArg nI (by omega))) ?_
  refine g_istore_n C (lv' := [(3, .int (nI ((A.tl s).length + (A.tl t).length))), (0, .ref (g 0)), (1, .int (nI s)), (2, .int (nI t))]) dX2_canJoin_13 rfl (by decide) rfl ?_
  refine g_iload_n C dX2_canJoin_14 0 rfl rfl ?_
  refine g_iconst C (v := 4) dX2_canJoin_15 (by decide) ?_
  refine g_imul C dX2_canJoin_16 ?_
  refine g_top (b := nI (((A.tl s).length + (A.tl t).length) * 4)) (pk_mul _ 4) ?_
  refine g_aload_n C dX2_canJoin_17 1 rfl rfl ?_
  refine g_aload_n C dX2_canJoin_18 1 rfl rfl ?_
  refine g_iload_n C dX2_canJoin_19 2 rfl rfl ?_
  refine g_callIV C [0, 1, 2, 3, 4, 5, 6, 7] [] [0, 1, 2, 3, 4, 5, 6, 7] 0 2 (b := g 0) rfl rfl (As := [.int (nI s)]) (rest := [.ref (g 0), .int (nI (((A.tl s).length + (A.tl t).length) * 4))]) (wr := ([] : va_W)) (wf := fun _ => (wG cy g z0 P)) dX2_canJoin_20 gX2_canJoin_X2_lastPage rfl dmX2_lastPage ⟨rfl, rfl, Nat.le_of_ble_eq_true rfl, Nat.le_of_ble_eq_true rfl, Nat.zero_le _, Nat.zero_le _⟩ (c_X2_lastPage l D cy cz g z0 P s hs) ⟨rfl, rfl, rfl, rfl, by decide, rfl, fun _ => rfl⟩ (Nat.le_of_ble_eq_true rfl) ?_
  rintro _ - rfl
  show G x l (rmF 2 72) D 6 0 0 (wG cy g z0 P) [(3, .int (nI ((A.tl s).length + (A.tl t).length))), (0, .ref (g 0)), (1, .int (nI s)), (2, .int (nI t))] [.int (P 7 s), .ref (g 0), .int (nI (((A.tl s).length + (A.tl t).length) * 4))] 23
  refine g_top (b := nI (A.la s)) (hr.last hs) ?_
  refine g_callIV C [0, 1, 2, 3, 4, 5, 6, 7] [] [0, 1, 2, 3, 4, 5, 6, 7] 0 2 (b := g 0) rfl rfl (As := [.int (nI (A.la s))]) (rest := [.int (nI (((A.tl s).length + (A.tl t).length) * 4))]) (wr := ([] : va_W)) (wf := fun _ => (wG cy g z0 P)) dX2_canJoin_23 gX2_canJoin_X2_entriesOnPage rfl dmX2_entriesOnPage ⟨rfl, rfl, Nat.le_of_ble_eq_true rfl, Nat.le_of_ble_eq_true rfl, Nat.zero_le _, Nat.zero_le _⟩ (c_X2_entriesOnPage l D cy cz g z0 P (A.la s) (hr.la hs)) ⟨rfl, rfl, rfl, rfl, by decide, rfl, fun _ => rfl⟩ (Nat.le_of_ble_eq_true rfl) ?_
  rintro _ - rfl
  show G x l (rmF 2 72) D 6 0 0 (wG cy g z0 P) [(3, .int (nI ((A.tl s).length + (A.tl t).length))), (0, .ref (g 0)), (1, .int (nI s)), (2, .int (nI t))] [.int (P 3 (A.la s)), .int (nI (((A.tl s).length + (A.tl t).length) * 4))] 26
  refine g_top (b := nI (A.sz (A.la s))) (hr.used (hr.la hs)) ?_
  refine g_iadd C dX2_canJoin_26 ?_
  refine g_top (b := nI (((A.tl s).length + (A.tl t).length) * 4 + A.sz (A.la s))) (nI_add _ _) ?_
  refine g_aload_n C dX2_canJoin_27 1 rfl rfl ?_
  refine g_aload_n C dX2_canJoin_28 1 rfl rfl ?_
  refine g_iload_n C dX2_canJoin_29 3 rfl rfl ?_
  refine g_callIV C [0, 1, 2, 3, 4, 5, 6, 7] [] [0, 1, 2, 3, 4, 5, 6, 7] 0 2 (b := g 0) rfl rfl (As := [.int (nI t)]) (rest := [.ref (g 0), .int (nI (((A.tl s).length + (A.tl t).length) * 4 + A.sz (A.la s)))]) (wr := ([] : va_W)) (wf := fun _ => (wG cy g z0 P)) dX2_canJoin_30 gX2_canJoin_X2_lastPage rfl dmX2_lastPage ⟨rfl, rfl, Nat.le_of_ble_eq_true rfl, Nat.le_of_ble_eq_true rfl, Nat.zero_le _, Nat.zero_le _⟩ (c_X2_lastPage l D cy cz g z0 P t ht) ⟨rfl, rfl, rfl, rfl, by decide, rfl, fun _ => rfl⟩ (Nat.le_of_ble_eq_true rfl) ?_
  rintro _ - rfl
  show G x l (rmF 2 72) D 6 0 0 (wG cy g z0 P) [(3, .int (nI ((A.tl s).length + (A.tl t).length))), (0, .ref (g 0)), (1, .int (nI s)), (2, .int (nI t))] [.int (P 7 t), .ref (g 0), .int (nI (((A.tl s).length + (A.tl t).length) * 4 + A.sz (A.la s)))] 33
  refine g_top (b := nI (A.la t)) (hr.last ht) ?_
  refine g_callIV C [0, 1, 2, 3, 4, 5, 6, 7] [] [0, 1, 2, 3, 4, 5, 6, 7] 0 2 (b := g 0) rfl rfl (As := [.int (nI (A.la t))]) (rest := [.int (nI (((A.tl s).length + (A.tl t).length) * 4 + A.sz (A.la s)))]) (wr := ([] : va_W)) (wf := fun _ => (wG cy g z0 P)) dX2_canJoin_33 gX2_canJoin_X2_entriesOnPage rfl dmX2_entriesOnPage ⟨rfl, rfl, Nat.le_of_ble_eq_true rfl, Nat.le_of_ble_eq_true rfl, Nat.zero_le _, Nat.zero_le _⟩ (c_X2_entriesOnPage l D cy cz g z0 P (A.la t) (hr.la ht)) ⟨rfl, rfl, rfl, rfl, by decide, rfl, fun _ => rfl⟩ (Nat.le_of_ble_eq_true rfl) ?_
  rintro _ - rfl
  show G x l (rmF 2 72) D 6 0 0 (wG cy g z0 P) [(3, .int (nI ((A.tl s).length + (A.tl t).length))), (0, .ref (g 0)), (1, .int (nI s)), (2, .int (nI t))] [.int (P 3 (A.la t)), .int (nI (((A.tl s).length + (A.tl t).length) * 4 + A.sz (A.la s)))] 36
  refine g_top (b := nI (A.sz (A.la t))) (hr.used (hr.la ht)) ?_
  refine g_iadd C dX2_canJoin_36 ?_
  refine g_top (b := nI (((A.tl s).length + (A.tl t).length) * 4 + A.sz (A.la s) + A.sz (A.la t))) (nI_add _ _) ?_
  refine g_istore C (lv' := [(4, .int (nI (((A.tl s).length + (A.tl t).length) * 4 + A.sz (A.la s) + A.sz (A.la t)))), (3, .int (nI ((A.tl s).length + (A.tl t).length))), (0, .ref (g 0)), (1, .int (nI s)), (2, .int (nI t))]) dX2_canJoin_37 (by decide) rfl ?_
  refine g_iconst C (v := 0) dX2_canJoin_39 (by decide) ?_
  refine g_iload C dX2_canJoin_40 0 rfl ?_
  refine g_iconst C (v := 4) dX2_canJoin_42 (by decide) ?_
  refine g_iadd C dX2_canJoin_43 ?_
  refine g_top (b := nI (((A.tl s).length + (A.tl t).length) * 4 + A.sz (A.la s) + A.sz (A.la t) + 4)) (nI_add _ 4) ?_
  refine g_iconst C (v := 1) dX2_canJoin_44 (by decide) ?_
  refine g_isub C dX2_canJoin_45 ?_
  refine g_top (b := nI (((A.tl s).length + (A.tl t).length) * 4 + A.sz (A.la s) + A.sz (A.la t) + 3)) ((pk_sub (b := 1) (by omega)).trans (congrArg nI (by omega))) ?_
  refine g_iconst C (v := 4) dX2_canJoin_46 (by decide) ?_
  refine g_idiv C dX2_canJoin_47 (by decide) ?_
  refine g_top (b := nI ((((A.tl s).length + (A.tl t).length) * 4 + A.sz (A.la s) + A.sz (A.la t) + 3) / 4)) (pk_div (d := 4) (by omega) (by decide) (by decide)) ?_
  refine g_iconst C (v := 1) dX2_canJoin_48 (by decide) ?_
  refine g_isub C dX2_canJoin_49 ?_
  refine g_max C dX2_canJoin_50 mX2_canJoin_l82 mX2_canJoin_s82 mX2_canJoin_i82 mX2_canJoin_c82 (Nat.le_of_ble_eq_true rfl) (Nat.le_of_ble_eq_true rfl) (Nat.zero_le _) (Nat.zero_le _) ?_
  refine g_top (b := nI (A.need s t)) (mx0 (by omega)) ?_
  refine g_istore C (lv' := [(5, .int (nI (A.need s t))), (4, .int (nI (((A.tl s).length + (A.tl t).length) * 4 + A.sz (A.la s) + A.sz (A.la t)))), (3, .int (nI ((A.tl s).length + (A.tl t).length))), (0, .ref (g 0)), (1, .int (nI s)), (2, .int (nI t))]) dX2_canJoin_53 (by decide) rfl ?_
  refine g_iload C dX2_canJoin_55 0 rfl ?_
  refine g_aload_n C dX2_canJoin_57 3 rfl rfl ?_
  refine g_callIV C [0, 1, 2, 3, 4, 5, 6, 7] [] [0, 1, 2, 3, 4, 5, 6, 7] 0 2 (b := g 0) rfl rfl (As := []) (rest := [.int (nI (A.need s t))]) (wr := ([] : va_W)) (wf := fun _ => (wG cy g z0 P)) dX2_canJoin_58 gX2_canJoin_X2_freePages rfl dmX2_freePages ⟨rfl, rfl, Nat.le_of_ble_eq_true rfl, Nat.le_of_ble_eq_true rfl, Nat.zero_le _, Nat.zero_le _⟩ (c_X2_freePages l D cy cz g z0 P A hr) ⟨rfl, rfl, rfl, rfl, by decide, rfl, fun _ => rfl⟩ (Nat.le_of_ble_eq_true rfl) ?_
  rintro _ - rfl
  show G x l (rmF 2 72) D 6 0 0 (wG cy g z0 P) [(5, .int (nI (A.need s t))), (4, .int (nI (((A.tl s).length + (A.tl t).length) * 4 + A.sz (A.la s) + A.sz (A.la t)))), (3, .int (nI ((A.tl s).length + (A.tl t).length))), (0, .ref (g 0)), (1, .int (nI s)), (2, .int (nI t))] [.int (nI A.fc), .int (nI (A.need s t))] 61
  refine g_iload_n C dX2_canJoin_61 2 rfl rfl ?_
  refine g_iadd C dX2_canJoin_62 ?_
  refine g_top (b := nI (A.fc + ((A.tl s).length + (A.tl t).length))) (nI_add _ _) ?_
  refine g_icmp_gt C (tgt := 70) dX2_canJoin_63 (by decide) (fun c1 => ?_) (fun c1 => ?_)
  · skip
    have hn : A.need s t ≤ 1000 := by unfold AS.need; omega
    have h1 : ¬ A.can s t := fun w => absurd ((nI_ltI (by omega) (by omega)).mp c1) (Nat.not_lt.mpr w)
    refine g_iconst C (v := 0) dX2_canJoin_70 (by decide) ?_
    exact ret _ () _ _ dX2_canJoin_71 (by decide) (by rw [if_neg h1])
  · skip
    have hn : A.need s t ≤ 1000 := by unfold AS.need; omega
    have h1 : A.can s t := Nat.le_of_not_lt (fun w => c1 (nI_lt w (by omega)))
    refine g_iconst C (v := 1) dX2_canJoin_66 (by decide) ?_
    refine g_goto C (tgt := 71) dX2_canJoin_67 (by decide) ?_
    exact ret _ () _ _ dX2_canJoin_71 (by decide) (by rw [if_pos h1])

theorem mX2_grow_f33 : Cond.fieldLink RX2 33 (TX2 7).1 (TX2 7).2.1 (TX2 7).2.2.1 ∈ wsX2_grow := List.mem_of_getElem? (i := 1) rfl
theorem iX2_grow_X2 : ∀ w ∈ wsX20, w ∈ wsX2_grow := by decide +kernel
theorem mX2_grow_f114 : Cond.fieldLink RX2 114 (TX0 2).1 (TX0 2).2.1 (TX0 2).2.2.1 ∈ wsX2_grow := List.mem_of_getElem? (i := 2) rfl
theorem iX2_grow_X0 : ∀ w ∈ wsX00, w ∈ wsX2_grow := by decide +kernel
theorem mX2_grow_f54 : Cond.fieldLink RX2 54 (TX2 9).1 (TX2 9).2.1 (TX2 9).2.2.1 ∈ wsX2_grow := List.mem_of_getElem? (i := 3) rfl
theorem mX2_grow_f50 : Cond.fieldLink RX2 50 (TX2 8).1 (TX2 8).2.1 (TX2 8).2.2.1 ∈ wsX2_grow := List.mem_of_getElem? (i := 4) rfl
theorem mX2_grow_f123 : Cond.fieldLink RX2 123 (TX0 0).1 (TX0 0).2.1 (TX0 0).2.2.1 ∈ wsX2_grow := List.mem_of_getElem? (i := 5) rfl
theorem mX2_grow_f124 : Cond.fieldLink RX2 124 (TX0 1).1 (TX0 1).2.1 (TX0 1).2.2.1 ∈ wsX2_grow := List.mem_of_getElem? (i := 6) rfl
set_option maxHeartbeats 1600000 in
set_option maxRecDepth 20000 in
theorem c_X2_grow (l : Launch) (D : va_G) (cy cz : ClassId) (g : Nat → Nat) (z : Nat → Nat) (P : Mem) (Z : Mem) (A : AS) (hr : RP A P) (hn : A.nb < 64) : MV l yX2_grow wsX2_grow (rmF 3 108) D (tyL cy cz) [.ref (g 0)] (wG cy g (z 0) P ++ (wZ cy z Z)) (fun (u : Mem × Mem) => RP A.grow u.1 ∧ u.1 0 2 = P 0 2) (fun u => (wG cy g (z 0) u.1 ++ (wZ cy z u.2))) := by
  refine g_entV (cc := cX2_grow) (maxL := 2) (own := RX2) (by decide) rfl rfl (Nat.le_of_ble_eq_true rfl) (fun x C ret => ?_)
  show G x l (rmF 3 108) D 2 0 0 (wG cy g (z 0) P ++ (wZ cy z Z)) [(0, .ref (g 0))] [] 0
  have hS64 : A.S < 64 := by have := hr.2.1.S_lt; omega
  have hlen := held_len hr.1.1 hS64
  have hcl := cnt_le hr.1.1 hS64
  refine g_aload_n C dX2_grow_0 0 rfl rfl ?_
  refine g_get C 0 (f := 7) (v := .ref (z 0)) (Cn := RX2) (T := TX2) (N := 11) dX2_grow_1 rfl rfl iX2_grow_X2 (by decide) mX2_grow_f33 rfl ?_
  refine g_iconst C (v := 0) dX2_grow_4 (by decide) ?_
  refine g_put C 8 (f := 2) (v := .int 0) (ty := .int) (Cn := RX0) (T := TX0) (N := 3) (ws' := (wG cy g (z 0) P ++ (wZ cy z (ps Z 0 0 0)))) dX2_grow_5 rfl rfl iX2_grow_X0 tyX0 tyX0_ok nmX0 (by decide) mX2_grow_f114 rfl rfl (rfl) (rfl) (Nat.le_of_ble_eq_true rfl) (set_r rfl (wZ_s0 cy z Z 0)) ?_
  refine g_aload_n C dX2_grow_8 0 rfl rfl ?_
  refine g_aload_n C dX2_grow_9 0 rfl rfl ?_
  refine g_get C 0 (f := 9) (v := .int (P 0 1)) (Cn := RX2) (T := TX2) (N := 11) dX2_grow_10 rfl rfl iX2_grow_X2 (by decide) mX2_grow_f54 rfl ?_
  refine g_top (b := nI A.S) (hr.2.2.2) ?_
  refine g_callVV C [0, 1, 2, 3, 4, 5, 6, 7, 8, 9, 10] [] [0, 1, 2, 3, 4, 5, 6, 7, 8, 9, 10] 0 2 (b := g 0) rfl rfl (As := [.int (nI A.S)]) (rest := []) (wr := ([] : va_W)) (wf := fun u1 => (wG cy g (z 0) u1.1 ++ (wZ cy z u1.2))) dX2_grow_13 gX2_grow_X2_setAside rfl dmX2_setAside ⟨rfl, rfl, Nat.le_of_ble_eq_true rfl, Nat.le_of_ble_eq_true rfl, Nat.zero_le _, Nat.zero_le _⟩ (c_X2_setAside l D cy cz g z P (ps Z 0 0 0) A ([]) A.S hr.1 RZ_nil hS64 (by rw [hr.1.1.sum hS64]; show 0 + _ ≤ 264; omega)) ⟨rfl, rfl, rfl, rfl, by decide, rfl, fun _ => rfl⟩ (Nat.le_of_ble_eq_true rfl) ?_
  intro u1 hp1
  show G x l (rmF 3 108) D 2 0 0 (wG cy g (z 0) u1.1 ++ (wZ cy z u1.2)) [(0, .ref (g 0))] [] 16
  obtain ⟨q1, q2, q3, q4, q5⟩ := hp1
  have q5 : RZ u1.2 (A.held A.S) := q5
  refine g_aload_n C dX2_grow_16 0 rfl rfl ?_
  refine g_dup C dX2_grow_17 rfl ?_
  refine g_get C 0 (f := 9) (v := .int (u1.1 0 1)) (Cn := RX2) (T := TX2) (N := 11) dX2_grow_18 rfl rfl iX2_grow_X2 (by decide) mX2_grow_f54 rfl ?_
  refine g_top (b := nI A.S) (q3.trans hr.2.2.2) ?_
  refine g_iconst C (v := 1) dX2_grow_21 (by decide) ?_
  refine g_iadd C dX2_grow_22 ?_
  refine g_top (b := nI (A.S + 1)) (nI_1 _) ?_
  refine g_put C 0 (f := 9) (v := .int (nI (A.S + 1))) (ty := .int) (Cn := RX2) (T := TX2) (N := 11) (ws' := (wG cy g (z 0) (ps u1.1 0 1 (nI (A.S + 1))) ++ (wZ cy z u1.2))) dX2_grow_23 rfl rfl iX2_grow_X2 tyX2 tyX2_ok nmX2 (by decide) mX2_grow_f54 rfl rfl (rfl) (rfl) (Nat.le_of_ble_eq_true rfl) (set_l (Nat.le_of_ble_eq_true rfl) (wG_s1 cy g (z 0) u1.1 (nI (A.S + 1)))) ?_
  refine g_aload_n C dX2_grow_26 0 rfl rfl ?_
  refine g_get C 0 (f := 9) (v := .int (nI (A.S + 1))) (Cn := RX2) (T := TX2) (N := 11) dX2_grow_27 rfl rfl iX2_grow_X2 (by decide) mX2_grow_f54 rfl ?_
  refine g_iconst C (v := 4) dX2_grow_30 (by decide) ?_
  refine g_aload_n C dX2_grow_31 0 rfl rfl ?_
  refine g_get C 0 (f := 8) (v := .int (u1.1 0 0)) (Cn := RX2) (T := TX2) (N := 11) dX2_grow_32 rfl rfl iX2_grow_X2 (by decide) mX2_grow_f50 rfl ?_
  refine g_top (b := nI A.L) (q2.trans hr.2.2.1) ?_
  refine g_ishl C dX2_grow_35 ?_
  refine g_top (b := nI (4 * 2 ^ A.L)) (base_eq hr.2.1.1) ?_
  refine g_icmp_ne C (tgt := 54) dX2_grow_36 (by decide) (fun c1 => ?_) (fun c1 => ?_)
  · skip
    have hx : ¬ A.S + 1 = 4 * 2 ^ A.L := fun w => c1 (by rw [w])
    have hA : RP A.g0 ((ps u1.1 0 1 (nI (A.S + 1)))) := ⟨⟨(grow_LI hr.1.1 hr.2.1 hn).1, q1.2⟩, grow_WFa hr.1.1 hr.2.1 hn, (q2.trans hr.2.2.1).trans (congrArg nI (by show A.L = nxL A.L A.S; unfold nxL; rw [if_neg hx])), congrArg nI (by show A.S + 1 = nxS A.L A.S; unfold nxS; rw [if_neg hx])⟩
    have hE : ((ps u1.1 0 1 (nI (A.S + 1)))) 0 2 = P 0 2 - nI (A.held A.S).length := by rw [hlen, ← hr.1.1.sum hS64]; exact q4
    refine g_iconst C (v := 0) dX2_grow_54 (by decide) ?_
    refine g_istore_n C (lv' := [(1, .int 0), (0, .ref (g 0))]) dX2_grow_55 rfl (by decide) rfl ?_
    refine g_loop (σ := Nat × Mem) (fun (a : Nat × Mem) => match a with | (i, Pi) => (wG cy g (z 0) Pi ++ (wZ cy z u1.2))) (fun (a : Nat × Mem) => match a with | (i, Pi) => [(1, .int (nI i)), (0, .ref (g 0))]) (fun (a : Nat × Mem) => match a with | (i, Pi) => (i ≤ (A.held A.S).length) ∧ (RP (A.g0.lay ((A.held A.S).take i)) Pi) ∧ (Pi 0 2 = P 0 2 - nI (A.held A.S).length + nI i) ∧ (LI (A.g0.lay ((A.held A.S).take i)) (A.fc + (A.tl A.S).length) A.S A.nb i)) (fun (a : Nat × Mem) => match a with | (i, Pi) => (A.held A.S).length - i) ?_ (0, (ps u1.1 0 1 (nI (A.S + 1)))) (⟨Nat.zero_le _, hA, hE.trans (Int32.add_zero _).symm, grow_LI hr.1.1 hr.2.1 hn⟩)
    intro a hI ih
    obtain ⟨i, Pi⟩ := a
    obtain ⟨i1, i2, i3, i4⟩ : (i ≤ (A.held A.S).length) ∧ (RP (A.g0.lay ((A.held A.S).take i)) Pi) ∧ (Pi 0 2 = P 0 2 - nI (A.held A.S).length + nI i) ∧ (LI (A.g0.lay ((A.held A.S).take i)) (A.fc + (A.tl A.S).length) A.S A.nb i) := hI
    show G x l (rmF 3 108) D 2 0 0 (wG cy g (z 0) Pi ++ (wZ cy z u1.2)) [(1, .int (nI i)), (0, .ref (g 0))] [] 56
    refine g_iload_n C dX2_grow_56 0 rfl rfl ?_
    refine g_aload_n C dX2_grow_57 1 rfl rfl ?_
    refine g_get C 0 (f := 7) (v := .ref (z 0)) (Cn := RX2) (T := TX2) (N := 11) dX2_grow_58 rfl rfl iX2_grow_X2 (by decide) mX2_grow_f33 rfl ?_
    refine g_get C 8 (f := 2) (v := .int (u1.2 0 0)) (Cn := RX0) (T := TX0) (N := 3) dX2_grow_61 rfl rfl iX2_grow_X0 (by decide) mX2_grow_f114 rfl ?_
    refine g_top (b := nI (A.held A.S).length) (q5.1) ?_
    refine g_icmp_ge C (tgt := 115) dX2_grow_64 (by decide) (fun c2 => ?_) (fun c2 => ?_)
    · skip
      have hi : i = (A.held A.S).length := by have := (nI_leI (by omega) (by omega)).mp c2; omega
      exact ret (Pi, u1.2) _ _ dX2_grow_115 (⟨by rw [hi, List.take_length] at i2; exact i2, by rw [hi] at i3; exact i3.trans (sub_add_nI _ _)⟩)
    · skip
      have hi : i < (A.held A.S).length := Nat.lt_of_not_le (fun w => c2 (nI_le w (by omega)))
      have hz := q5.2.2 i hi
      have hbt : (A.g0.lay ((A.held A.S).take i)).ad ((A.held A.S).getD i (0, 0)).1 = A.S ∨ (A.g0.lay ((A.held A.S).take i)).ad ((A.held A.S).getD i (0, 0)).1 = A.nb := by rw [lay_ad]; exact grow_ad hr.2.1 _ (getD_mem hi)
      have hm := LI_room i4 hi (grow_room hr.1.1 hS64) hbt
      refine g_iload_n C dX2_grow_67 0 rfl rfl ?_
      refine g_sipush C (v := 264) dX2_grow_68 (by decide) ?_
      refine g_icmp_ge C (tgt := 115) dX2_grow_71 (by decide) (fun c3 => ?_) (fun c3 => ?_)
      · skip
        exact absurd c3 (nI_ge (a := i) (b := 264) (by omega) (by decide))
      · skip
        refine g_aload_n C dX2_grow_74 1 rfl rfl ?_
        refine g_aload_n C dX2_grow_75 1 rfl rfl ?_
        refine g_aload_n C dX2_grow_76 1 rfl rfl ?_
        refine g_get C 0 (f := 7) (v := .ref (z 0)) (Cn := RX2) (T := TX2) (N := 11) dX2_grow_77 rfl rfl iX2_grow_X2 (by decide) mX2_grow_f33 rfl ?_
        refine g_get C 8 (f := 0) (v := .ref (z 1)) (Cn := RX0) (T := TX0) (N := 3) dX2_grow_80 rfl rfl iX2_grow_X0 (by decide) mX2_grow_f123 rfl ?_
        refine g_iload_n C dX2_grow_83 0 rfl rfl ?_
        refine g_iald C 9 0 (f := u1.2 1) (N := 264) i dX2_grow_84 rfl rfl (by decide) (rfl) (by omega) ?_
        refine g_top (b := ((A.held A.S).getD i (0, 0)).1) (hz.1) ?_
        refine g_callIV C [0, 1, 2, 3, 4, 5, 6, 7] [8, 9, 10] [3, 4, 5, 6, 7, 8, 9, 10, 0, 1, 2] 0 2 (b := g 0) rfl rfl (As := [.int (((A.held A.S).getD i (0, 0)).1)]) (rest := [.ref (g 0)]) (wr := (wZ cy z u1.2)) (wf := fun _ => (wG cy g (z 0) Pi ++ (wZ cy z u1.2))) dX2_grow_85 gX2_grow_X2_addressOf rfl dmX2_addressOf ⟨rfl, rfl, Nat.le_of_ble_eq_true rfl, Nat.le_of_ble_eq_true rfl, Nat.zero_le _, Nat.zero_le _⟩ (c_X2_addressOf l D cy cz g (z 0) Pi ((A.g0.lay ((A.held A.S).take i)).L) ((A.g0.lay ((A.held A.S).take i)).S) (((A.held A.S).getD i (0, 0)).1) i2.2.2.1 i2.2.2.2 i2.2.1.1 i2.S64) ⟨rfl, rfl, rfl, rfl, by decide, rfl, fun _ => rfl⟩ (Nat.le_of_ble_eq_true rfl) ?_
        rintro _ - rfl
        show G x l (rmF 3 108) D 2 0 0 (wG cy g (z 0) Pi ++ (wZ cy z u1.2)) [(1, .int (nI i)), (0, .ref (g 0))] [.int (nI (adr ((A.g0.lay ((A.held A.S).take i)).L) ((A.g0.lay ((A.held A.S).take i)).S) (((A.held A.S).getD i (0, 0)).1))), .ref (g 0)] 88
        refine g_top (b := nI ((A.g0.lay ((A.held A.S).take i)).ad ((A.held A.S).getD i (0, 0)).1)) (rfl) ?_
        refine g_aload_n C dX2_grow_88 1 rfl rfl ?_
        refine g_get C 0 (f := 7) (v := .ref (z 0)) (Cn := RX2) (T := TX2) (N := 11) dX2_grow_89 rfl rfl iX2_grow_X2 (by decide) mX2_grow_f33 rfl ?_
        refine g_get C 8 (f := 0) (v := .ref (z 1)) (Cn := RX0) (T := TX0) (N := 3) dX2_grow_92 rfl rfl iX2_grow_X0 (by decide) mX2_grow_f123 rfl ?_
        refine g_iload_n C dX2_grow_95 0 rfl rfl ?_
        refine g_iald C 9 0 (f := u1.2 1) (N := 264) i dX2_grow_96 rfl rfl (by decide) (rfl) (by omega) ?_
        refine g_top (b := ((A.held A.S).getD i (0, 0)).1) (hz.1) ?_
        refine g_aload_n C dX2_grow_97 1 rfl rfl ?_
        refine g_get C 0 (f := 7) (v := .ref (z 0)) (Cn := RX2) (T := TX2) (N := 11) dX2_grow_98 rfl rfl iX2_grow_X2 (by decide) mX2_grow_f33 rfl ?_
        refine g_get C 8 (f := 1) (v := .ref (z 2)) (Cn := RX0) (T := TX0) (N := 3) dX2_grow_101 rfl rfl iX2_grow_X0 (by decide) mX2_grow_f124 rfl ?_
        refine g_iload_n C dX2_grow_104 0 rfl rfl ?_
        refine g_iald C 10 0 (f := u1.2 2) (N := 264) i dX2_grow_105 rfl rfl (by decide) (rfl) (by omega) ?_
        refine g_top (b := ((A.held A.S).getD i (0, 0)).2) (hz.2) ?_
        refine g_callVV C [0, 1, 2, 3, 4, 5, 6, 7] [8, 9, 10] [3, 4, 5, 6, 7, 8, 9, 10, 0, 1, 2] 0 2 (b := g 0) rfl rfl (As := [.int (nI ((A.g0.lay ((A.held A.S).take i)).ad ((A.held A.S).getD i (0, 0)).1)), .int (((A.held A.S).getD i (0, 0)).1), .int (((A.held A.S).getD i (0, 0)).2)]) (rest := []) (wr := (wZ cy z u1.2)) (wf := fun P3 => (wG cy g (z 0) P3 ++ (wZ cy z u1.2))) dX2_grow_106 gX2_grow_X2_append rfl dmX2_append ⟨rfl, rfl, Nat.le_of_ble_eq_true rfl, Nat.le_of_ble_eq_true rfl, Nat.zero_le _, Nat.zero_le _⟩ (c_X2_append l D cy cz g (z 0) Pi (A.g0.lay ((A.held A.S).take i)) ((A.g0.lay ((A.held A.S).take i)).ad ((A.held A.S).getD i (0, 0)).1) (((A.held A.S).getD i (0, 0)).1) (((A.held A.S).getD i (0, 0)).2) i2.1 (i2.adlt _) hm) ⟨rfl, rfl, rfl, rfl, by decide, rfl, fun _ => rfl⟩ (Nat.le_of_ble_eq_true rfl) ?_
        intro P3 hp3
        show G x l (rmF 3 108) D 2 0 0 (wG cy g (z 0) P3 ++ (wZ cy z u1.2)) [(1, .int (nI i)), (0, .ref (g 0))] [] 109
        refine g_iinc C (q := 0) (v := nI (i + 1)) (lv' := [(1, .int (nI (i + 1))), (0, .ref (g 0))]) dX2_grow_109 rfl (nI_1 i) (by decide) rfl ?_
        refine g_goto C (tgt := 56) dX2_grow_112 (by decide) ?_
        have hmem := getD_mem hi
        have hls := lay_LS A.g0 ((A.held A.S).take i)
        exact ih (i + 1, P3) ⟨hi, by rw [take_succ' hi, lay_snoc]; exact RP_add i2 hm hp3.1 hp3.2.1 hp3.2.2.1, by rw [hp3.2.2.2, i3, Int32.add_assoc, nI_1], by rw [take_succ' hi, lay_snoc]; exact LI_step i4 hbt hm _ _⟩ (by show (A.held A.S).length - (i + 1) < (A.held A.S).length - i; omega)
  · skip
    have h16 : 4 * 2 ^ A.L ≤ 64 := by have h4 := hr.2.1.1; have := Nat.pow_le_pow_right (n := 2) (by decide) h4; omega
    have hx : A.S + 1 = 4 * 2 ^ A.L := (nI_eq (by omega) (by omega)).mp c1
    refine g_aload_n C dX2_grow_39 0 rfl rfl ?_
    refine g_iconst C (v := 0) dX2_grow_40 (by decide) ?_
    refine g_put C 0 (f := 9) (v := .int 0) (ty := .int) (Cn := RX2) (T := TX2) (N := 11) (ws' := (wG cy g (z 0) (ps (ps u1.1 0 1 (nI (A.S + 1))) 0 1 0) ++ (wZ cy z u1.2))) dX2_grow_41 rfl rfl iX2_grow_X2 tyX2 tyX2_ok nmX2 (by decide) mX2_grow_f54 rfl rfl (rfl) (rfl) (Nat.le_of_ble_eq_true rfl) (set_l (Nat.le_of_ble_eq_true rfl) (wG_s1 cy g (z 0) (ps u1.1 0 1 (nI (A.S + 1))) 0)) ?_
    refine g_aload_n C dX2_grow_44 0 rfl rfl ?_
    refine g_dup C dX2_grow_45 rfl ?_
    refine g_get C 0 (f := 8) (v := .int (u1.1 0 0)) (Cn := RX2) (T := TX2) (N := 11) dX2_grow_46 rfl rfl iX2_grow_X2 (by decide) mX2_grow_f50 rfl ?_
    refine g_top (b := nI A.L) (q2.trans hr.2.2.1) ?_
    refine g_iconst C (v := 1) dX2_grow_49 (by decide) ?_
    refine g_iadd C dX2_grow_50 ?_
    refine g_top (b := nI (A.L + 1)) (nI_1 _) ?_
    refine g_put C 0 (f := 8) (v := .int (nI (A.L + 1))) (ty := .int) (Cn := RX2) (T := TX2) (N := 11) (ws' := (wG cy g (z 0) (ps (ps (ps u1.1 0 1 (nI (A.S + 1))) 0 1 0) 0 0 (nI (A.L + 1))) ++ (wZ cy z u1.2))) dX2_grow_51 rfl rfl iX2_grow_X2 tyX2 tyX2_ok nmX2 (by decide) mX2_grow_f50 rfl rfl (rfl) (rfl) (Nat.le_of_ble_eq_true rfl) (set_l (Nat.le_of_ble_eq_true rfl) (wG_s0 cy g (z 0) (ps (ps u1.1 0 1 (nI (A.S + 1))) 0 1 0) (nI (A.L + 1)))) ?_
    have hA : RP A.g0 ((ps (ps (ps u1.1 0 1 (nI (A.S + 1))) 0 1 0) 0 0 (nI (A.L + 1)))) := ⟨⟨(grow_LI hr.1.1 hr.2.1 hn).1, q1.2⟩, grow_WFa hr.1.1 hr.2.1 hn, congrArg nI (by show A.L + 1 = nxL A.L A.S; unfold nxL; rw [if_pos hx]), congrArg nI (by show 0 = nxS A.L A.S; unfold nxS; rw [if_pos hx])⟩
    have hE : ((ps (ps (ps u1.1 0 1 (nI (A.S + 1))) 0 1 0) 0 0 (nI (A.L + 1)))) 0 2 = P 0 2 - nI (A.held A.S).length := by rw [hlen, ← hr.1.1.sum hS64]; exact q4
    refine g_iconst C (v := 0) dX2_grow_54 (by decide) ?_
    refine g_istore_n C (lv' := [(1, .int 0), (0, .ref (g 0))]) dX2_grow_55 rfl (by decide) rfl ?_
    refine g_loop (σ := Nat × Mem) (fun (a : Nat × Mem) => match a with | (i, Pi) => (wG cy g (z 0) Pi ++ (wZ cy z u1.2))) (fun (a : Nat × Mem) => match a with | (i, Pi) => [(1, .int (nI i)), (0, .ref (g 0))]) (fun (a : Nat × Mem) => match a with | (i, Pi) => (i ≤ (A.held A.S).length) ∧ (RP (A.g0.lay ((A.held A.S).take i)) Pi) ∧ (Pi 0 2 = P 0 2 - nI (A.held A.S).length + nI i) ∧ (LI (A.g0.lay ((A.held A.S).take i)) (A.fc + (A.tl A.S).length) A.S A.nb i)) (fun (a : Nat × Mem) => match a with | (i, Pi) => (A.held A.S).length - i) ?_ (0, (ps (ps (ps u1.1 0 1 (nI (A.S + 1))) 0 1 0) 0 0 (nI (A.L + 1)))) (⟨Nat.zero_le _, hA, hE.trans (Int32.add_zero _).symm, grow_LI hr.1.1 hr.2.1 hn⟩)
    intro a hI ih
    obtain ⟨i, Pi⟩ := a
    obtain ⟨i1, i2, i3, i4⟩ : (i ≤ (A.held A.S).length) ∧ (RP (A.g0.lay ((A.held A.S).take i)) Pi) ∧ (Pi 0 2 = P 0 2 - nI (A.held A.S).length + nI i) ∧ (LI (A.g0.lay ((A.held A.S).take i)) (A.fc + (A.tl A.S).length) A.S A.nb i) := hI
    show G x l (rmF 3 108) D 2 0 0 (wG cy g (z 0) Pi ++ (wZ cy z u1.2)) [(1, .int (nI i)), (0, .ref (g 0))] [] 56
    refine g_iload_n C dX2_grow_56 0 rfl rfl ?_
    refine g_aload_n C dX2_grow_57 1 rfl rfl ?_
    refine g_get C 0 (f := 7) (v := .ref (z 0)) (Cn := RX2) (T := TX2) (N := 11) dX2_grow_58 rfl rfl iX2_grow_X2 (by decide) mX2_grow_f33 rfl ?_
    refine g_get C 8 (f := 2) (v := .int (u1.2 0 0)) (Cn := RX0) (T := TX0) (N := 3) dX2_grow_61 rfl rfl iX2_grow_X0 (by decide) mX2_grow_f114 rfl ?_
    refine g_top (b := nI (A.held A.S).length) (q5.1) ?_
    refine g_icmp_ge C (tgt := 115) dX2_grow_64 (by decide) (fun c2 => ?_) (fun c2 => ?_)
    · skip
      have hi : i = (A.held A.S).length := by have := (nI_leI (by omega) (by omega)).mp c2; omega
      exact ret (Pi, u1.2) _ _ dX2_grow_115 (⟨by rw [hi, List.take_length] at i2; exact i2, by rw [hi] at i3; exact i3.trans (sub_add_nI _ _)⟩)
    · skip
      have hi : i < (A.held A.S).length := Nat.lt_of_not_le (fun w => c2 (nI_le w (by omega)))
      have hz := q5.2.2 i hi
      have hbt : (A.g0.lay ((A.held A.S).take i)).ad ((A.held A.S).getD i (0, 0)).1 = A.S ∨ (A.g0.lay ((A.held A.S).take i)).ad ((A.held A.S).getD i (0, 0)).1 = A.nb := by rw [lay_ad]; exact grow_ad hr.2.1 _ (getD_mem hi)
      have hm := LI_room i4 hi (grow_room hr.1.1 hS64) hbt
      refine g_iload_n C dX2_grow_67 0 rfl rfl ?_
      refine g_sipush C (v := 264) dX2_grow_68 (by decide) ?_
      refine g_icmp_ge C (tgt := 115) dX2_grow_71 (by decide) (fun c3 => ?_) (fun c3 => ?_)
      · skip
        exact absurd c3 (nI_ge (a := i) (b := 264) (by omega) (by decide))
      · skip
        refine g_aload_n C dX2_grow_74 1 rfl rfl ?_
        refine g_aload_n C dX2_grow_75 1 rfl rfl ?_
        refine g_aload_n C dX2_grow_76 1 rfl rfl ?_
        refine g_get C 0 (f := 7) (v := .ref (z 0)) (Cn := RX2) (T := TX2) (N := 11) dX2_grow_77 rfl rfl iX2_grow_X2 (by decide) mX2_grow_f33 rfl ?_
        refine g_get C 8 (f := 0) (v := .ref (z 1)) (Cn := RX0) (T := TX0) (N := 3) dX2_grow_80 rfl rfl iX2_grow_X0 (by decide) mX2_grow_f123 rfl ?_
        refine g_iload_n C dX2_grow_83 0 rfl rfl ?_
        refine g_iald C 9 0 (f := u1.2 1) (N := 264) i dX2_grow_84 rfl rfl (by decide) (rfl) (by omega) ?_
        refine g_top (b := ((A.held A.S).getD i (0, 0)).1) (hz.1) ?_
        refine g_callIV C [0, 1, 2, 3, 4, 5, 6, 7] [8, 9, 10] [3, 4, 5, 6, 7, 8, 9, 10, 0, 1, 2] 0 2 (b := g 0) rfl rfl (As := [.int (((A.held A.S).getD i (0, 0)).1)]) (rest := [.ref (g 0)]) (wr := (wZ cy z u1.2)) (wf := fun _ => (wG cy g (z 0) Pi ++ (wZ cy z u1.2))) dX2_grow_85 gX2_grow_X2_addressOf rfl dmX2_addressOf ⟨rfl, rfl, Nat.le_of_ble_eq_true rfl, Nat.le_of_ble_eq_true rfl, Nat.zero_le _, Nat.zero_le _⟩ (c_X2_addressOf l D cy cz g (z 0) Pi ((A.g0.lay ((A.held A.S).take i)).L) ((A.g0.lay ((A.held A.S).take i)).S) (((A.held A.S).getD i (0, 0)).1) i2.2.2.1 i2.2.2.2 i2.2.1.1 i2.S64) ⟨rfl, rfl, rfl, rfl, by decide, rfl, fun _ => rfl⟩ (Nat.le_of_ble_eq_true rfl) ?_
        rintro _ - rfl
        show G x l (rmF 3 108) D 2 0 0 (wG cy g (z 0) Pi ++ (wZ cy z u1.2)) [(1, .int (nI i)), (0, .ref (g 0))] [.int (nI (adr ((A.g0.lay ((A.held A.S).take i)).L) ((A.g0.lay ((A.held A.S).take i)).S) (((A.held A.S).getD i (0, 0)).1))), .ref (g 0)] 88
        refine g_top (b := nI ((A.g0.lay ((A.held A.S).take i)).ad ((A.held A.S).getD i (0, 0)).1)) (rfl) ?_
        refine g_aload_n C dX2_grow_88 1 rfl rfl ?_
        refine g_get C 0 (f := 7) (v := .ref (z 0)) (Cn := RX2) (T := TX2) (N := 11) dX2_grow_89 rfl rfl iX2_grow_X2 (by decide) mX2_grow_f33 rfl ?_
        refine g_get C 8 (f := 0) (v := .ref (z 1)) (Cn := RX0) (T := TX0) (N := 3) dX2_grow_92 rfl rfl iX2_grow_X0 (by decide) mX2_grow_f123 rfl ?_
        refine g_iload_n C dX2_grow_95 0 rfl rfl ?_
        refine g_iald C 9 0 (f := u1.2 1) (N := 264) i dX2_grow_96 rfl rfl (by decide) (rfl) (by omega) ?_
        refine g_top (b := ((A.held A.S).getD i (0, 0)).1) (hz.1) ?_
        refine g_aload_n C dX2_grow_97 1 rfl rfl ?_
        refine g_get C 0 (f := 7) (v := .ref (z 0)) (Cn := RX2) (T := TX2) (N := 11) dX2_grow_98 rfl rfl iX2_grow_X2 (by decide) mX2_grow_f33 rfl ?_
        refine g_get C 8 (f := 1) (v := .ref (z 2)) (Cn := RX0) (T := TX0) (N := 3) dX2_grow_101 rfl rfl iX2_grow_X0 (by decide) mX2_grow_f124 rfl ?_
        refine g_iload_n C dX2_grow_104 0 rfl rfl ?_
        refine g_iald C 10 0 (f := u1.2 2) (N := 264) i dX2_grow_105 rfl rfl (by decide) (rfl) (by omega) ?_
        refine g_top (b := ((A.held A.S).getD i (0, 0)).2) (hz.2) ?_
        refine g_callVV C [0, 1, 2, 3, 4, 5, 6, 7] [8, 9, 10] [3, 4, 5, 6, 7, 8, 9, 10, 0, 1, 2] 0 2 (b := g 0) rfl rfl (As := [.int (nI ((A.g0.lay ((A.held A.S).take i)).ad ((A.held A.S).getD i (0, 0)).1)), .int (((A.held A.S).getD i (0, 0)).1), .int (((A.held A.S).getD i (0, 0)).2)]) (rest := []) (wr := (wZ cy z u1.2)) (wf := fun P3 => (wG cy g (z 0) P3 ++ (wZ cy z u1.2))) dX2_grow_106 gX2_grow_X2_append rfl dmX2_append ⟨rfl, rfl, Nat.le_of_ble_eq_true rfl, Nat.le_of_ble_eq_true rfl, Nat.zero_le _, Nat.zero_le _⟩ (c_X2_append l D cy cz g (z 0) Pi (A.g0.lay ((A.held A.S).take i)) ((A.g0.lay ((A.held A.S).take i)).ad ((A.held A.S).getD i (0, 0)).1) (((A.held A.S).getD i (0, 0)).1) (((A.held A.S).getD i (0, 0)).2) i2.1 (i2.adlt _) hm) ⟨rfl, rfl, rfl, rfl, by decide, rfl, fun _ => rfl⟩ (Nat.le_of_ble_eq_true rfl) ?_
        intro P3 hp3
        show G x l (rmF 3 108) D 2 0 0 (wG cy g (z 0) P3 ++ (wZ cy z u1.2)) [(1, .int (nI i)), (0, .ref (g 0))] [] 109
        refine g_iinc C (q := 0) (v := nI (i + 1)) (lv' := [(1, .int (nI (i + 1))), (0, .ref (g 0))]) dX2_grow_109 rfl (nI_1 i) (by decide) rfl ?_
        refine g_goto C (tgt := 56) dX2_grow_112 (by decide) ?_
        have hmem := getD_mem hi
        have hls := lay_LS A.g0 ((A.held A.S).take i)
        exact ih (i + 1, P3) ⟨hi, by rw [take_succ' hi, lay_snoc]; exact RP_add i2 hm hp3.1 hp3.2.1 hp3.2.2.1, by rw [hp3.2.2.2, i3, Int32.add_assoc, nI_1], by rw [take_succ' hi, lay_snoc]; exact LI_step i4 hbt hm _ _⟩ (by show (A.held A.S).length - (i + 1) < (A.held A.S).length - i; omega)

theorem mX2_shrink_f54 : Cond.fieldLink RX2 54 (TX2 9).1 (TX2 9).2.1 (TX2 9).2.2.1 ∈ wsX2_shrink := List.mem_of_getElem? (i := 1) rfl
theorem iX2_shrink_X2 : ∀ w ∈ wsX20, w ∈ wsX2_shrink := by decide +kernel
theorem mX2_shrink_f50 : Cond.fieldLink RX2 50 (TX2 8).1 (TX2 8).2.1 (TX2 8).2.2.1 ∈ wsX2_shrink := List.mem_of_getElem? (i := 2) rfl
theorem mX2_shrink_f33 : Cond.fieldLink RX2 33 (TX2 7).1 (TX2 7).2.1 (TX2 7).2.2.1 ∈ wsX2_shrink := List.mem_of_getElem? (i := 3) rfl
theorem mX2_shrink_f114 : Cond.fieldLink RX2 114 (TX0 2).1 (TX0 2).2.1 (TX0 2).2.2.1 ∈ wsX2_shrink := List.mem_of_getElem? (i := 4) rfl
theorem iX2_shrink_X0 : ∀ w ∈ wsX00, w ∈ wsX2_shrink := by decide +kernel
theorem mX2_shrink_f123 : Cond.fieldLink RX2 123 (TX0 0).1 (TX0 0).2.1 (TX0 0).2.2.1 ∈ wsX2_shrink := List.mem_of_getElem? (i := 5) rfl
theorem mX2_shrink_f124 : Cond.fieldLink RX2 124 (TX0 1).1 (TX0 1).2.1 (TX0 1).2.2.1 ∈ wsX2_shrink := List.mem_of_getElem? (i := 6) rfl
set_option maxHeartbeats 1600000 in
set_option maxRecDepth 20000 in
theorem c_X2_shrink (l : Launch) (D : va_G) (cy cz : ClassId) (g : Nat → Nat) (z : Nat → Nat) (P : Mem) (Z : Mem) (A : AS) (hr : RP A P) (hn : 4 < A.nb) : MV l yX2_shrink wsX2_shrink (rmF 3 108) D (tyL cy cz) [.ref (g 0)] (wG cy g (z 0) P ++ (wZ cy z Z)) (fun (u : Mem × Mem) => RP A.shrink u.1 ∧ u.1 0 2 = P 0 2) (fun u => (wG cy g (z 0) u.1 ++ (wZ cy z u.2))) := by
  refine g_entV (cc := cX2_shrink) (maxL := 5) (own := RX2) (by decide) rfl rfl (Nat.le_of_ble_eq_true rfl) (fun x C ret => ?_)
  show G x l (rmF 3 108) D 5 0 0 (wG cy g (z 0) P ++ (wZ cy z Z)) [(0, .ref (g 0))] [] 0
  obtain ⟨g1, g2, g3, g4⟩ := st_go hr.2.1 hn
  obtain ⟨w1, w2, w3, w4, w5, w6⟩ := pv_ok hr.2.1.1 hr.2.1.2.1 hn
  obtain ⟨hlen, hcl⟩ := shrink_len hr.1.1 hr.2.1 hn
  have n64 := hr.nb64
  have h4 := hr.2.1.1
  have hS6 := hr.S64
  refine g_aload_n C dX2_shrink_0 0 rfl rfl ?_
  refine g_callIV C [0, 1, 2, 3, 4, 5, 6, 7] [8, 9, 10] [3, 4, 5, 6, 7, 8, 9, 10, 0, 1, 2] 0 2 (b := g 0) rfl rfl (As := []) (rest := []) (wr := (wZ cy z Z)) (wf := fun _ => (wG cy g (z 0) P ++ (wZ cy z Z))) dX2_shrink_1 gX2_shrink_X2_bucketCount rfl dmX2_bucketCount ⟨rfl, rfl, Nat.le_of_ble_eq_true rfl, Nat.le_of_ble_eq_true rfl, Nat.zero_le _, Nat.zero_le _⟩ (c_X2_bucketCount l D cy cz g (z 0) P) ⟨rfl, rfl, rfl, rfl, by decide, rfl, fun _ => rfl⟩ (Nat.le_of_ble_eq_true rfl) ?_
  rintro _ - rfl
  show G x l (rmF 3 108) D 5 0 0 (wG cy g (z 0) P ++ (wZ cy z Z)) [(0, .ref (g 0))] [.int ((4 <<< (P 0 0 &&& 31)) + P 0 1)] 4
  refine g_top (b := nI A.nb) (hr.nb) ?_
  refine g_iconst C (v := 1) dX2_shrink_4 (by decide) ?_
  refine g_isub C dX2_shrink_5 ?_
  refine g_top (b := nI A.go) (pk_sub (b := 1) (by omega)) ?_
  refine g_istore_n C (lv' := [(1, .int (nI A.go)), (0, .ref (g 0))]) dX2_shrink_6 rfl (by decide) rfl ?_
  refine g_aload_n C dX2_shrink_7 1 rfl rfl ?_
  refine g_get C 0 (f := 9) (v := .int (P 0 1)) (Cn := RX2) (T := TX2) (N := 11) dX2_shrink_8 rfl rfl iX2_shrink_X2 (by decide) mX2_shrink_f54 rfl ?_
  refine g_top (b := nI A.S) (hr.2.2.2) ?_
  refine g_if_ne C (tgt := 23) dX2_shrink_11 (by decide) (fun c1 => ?_) (fun c1 => ?_)
  · skip
    have hS : ¬ A.S = 0 := fun w => c1 (by rw [w]; rfl)
    refine g_aload_n C dX2_shrink_23 1 rfl rfl ?_
    refine g_get C 0 (f := 8) (v := .int (P 0 0)) (Cn := RX2) (T := TX2) (N := 11) dX2_shrink_24 rfl rfl iX2_shrink_X2 (by decide) mX2_shrink_f50 rfl ?_
    refine g_top (b := nI (pvL A.L A.S)) (hr.2.2.1.trans (congrArg nI (by unfold pvL; rw [if_neg hS]))) ?_
    refine g_istore_n C (lv' := [(2, .int (nI (pvL A.L A.S))), (1, .int (nI A.go)), (0, .ref (g 0))]) dX2_shrink_27 rfl (by decide) rfl ?_
    refine g_iload_n C dX2_shrink_28 1 rfl rfl ?_
    refine g_iconst C (v := 4) dX2_shrink_29 (by decide) ?_
    refine g_iload_n C dX2_shrink_30 0 rfl rfl ?_
    refine g_ishl C dX2_shrink_31 ?_
    refine g_top (b := nI (4 * 2 ^ pvL A.L A.S)) (base_eq w1) ?_
    refine g_isub C dX2_shrink_32 ?_
    refine g_top (b := nI A.st) ((pk_sub (by unfold AS.go AS.nb; omega)).trans (congrArg nI (by unfold AS.go AS.st AS.nb; omega))) ?_
    refine g_istore_n C (lv' := [(3, .int (nI A.st)), (2, .int (nI (pvL A.L A.S))), (1, .int (nI A.go)), (0, .ref (g 0))]) dX2_shrink_33 rfl (by decide) rfl ?_
    refine g_aload_n C dX2_shrink_34 3 rfl rfl ?_
    refine g_iload_n C dX2_shrink_35 0 rfl rfl ?_
    refine g_iload_n C dX2_shrink_36 2 rfl rfl ?_
    refine g_callIV C [0, 1, 2, 3, 4, 5, 6, 7] [8, 9, 10] [3, 4, 5, 6, 7, 8, 9, 10, 0, 1, 2] 0 2 (b := g 0) rfl rfl (As := [.int (nI A.st), .int (nI A.go)]) (rest := []) (wr := (wZ cy z Z)) (wf := fun _ => (wG cy g (z 0) P ++ (wZ cy z Z))) dX2_shrink_37 gX2_shrink_X2_canJoin rfl dmX2_canJoin ⟨rfl, rfl, Nat.le_of_ble_eq_true rfl, Nat.le_of_ble_eq_true rfl, Nat.zero_le _, Nat.zero_le _⟩ (c_X2_canJoin l D cy cz g (z 0) P A A.st A.go hr.1 g3 g4) ⟨rfl, rfl, rfl, rfl, by decide, rfl, fun _ => rfl⟩ (Nat.le_of_ble_eq_true rfl) ?_
    rintro _ - rfl
    show G x l (rmF 3 108) D 5 0 0 (wG cy g (z 0) P ++ (wZ cy z Z)) [(3, .int (nI A.st)), (2, .int (nI (pvL A.L A.S))), (1, .int (nI A.go)), (0, .ref (g 0))] [.int (if A.can A.st A.go then 1 else 0)] 40
    refine g_if_ne C (tgt := 44) dX2_shrink_40 (by decide) (fun c2 => ?_) (fun c2 => ?_)
    · skip
      have hc : A.can A.st A.go := Decidable.byContradiction (fun w => c2 (if_neg w))
      refine g_aload_n C dX2_shrink_44 3 rfl rfl ?_
      refine g_iload_n C dX2_shrink_45 1 rfl rfl ?_
      refine g_put C 0 (f := 8) (v := .int (nI (pvL A.L A.S))) (ty := .int) (Cn := RX2) (T := TX2) (N := 11) (ws' := (wG cy g (z 0) (ps P 0 0 (nI (pvL A.L A.S))) ++ (wZ cy z Z))) dX2_shrink_46 rfl rfl iX2_shrink_X2 tyX2 tyX2_ok nmX2 (by decide) mX2_shrink_f50 rfl rfl (rfl) (rfl) (Nat.le_of_ble_eq_true rfl) (set_l (Nat.le_of_ble_eq_true rfl) (wG_s0 cy g (z 0) P (nI (pvL A.L A.S)))) ?_
      refine g_aload_n C dX2_shrink_49 3 rfl rfl ?_
      refine g_iload_n C dX2_shrink_50 0 rfl rfl ?_
      refine g_put C 0 (f := 9) (v := .int (nI A.st)) (ty := .int) (Cn := RX2) (T := TX2) (N := 11) (ws' := (wG cy g (z 0) (ps (ps P 0 0 (nI (pvL A.L A.S))) 0 1 (nI A.st)) ++ (wZ cy z Z))) dX2_shrink_51 rfl rfl iX2_shrink_X2 tyX2 tyX2_ok nmX2 (by decide) mX2_shrink_f54 rfl rfl (rfl) (rfl) (Nat.le_of_ble_eq_true rfl) (set_l (Nat.le_of_ble_eq_true rfl) (wG_s1 cy g (z 0) (ps P 0 0 (nI (pvL A.L A.S))) (nI A.st))) ?_
      refine g_aload_n C dX2_shrink_54 3 rfl rfl ?_
      refine g_get C 0 (f := 7) (v := .ref (z 0)) (Cn := RX2) (T := TX2) (N := 11) dX2_shrink_55 rfl rfl iX2_shrink_X2 (by decide) mX2_shrink_f33 rfl ?_
      refine g_iconst C (v := 0) dX2_shrink_58 (by decide) ?_
      refine g_put C 8 (f := 2) (v := .int 0) (ty := .int) (Cn := RX0) (T := TX0) (N := 3) (ws' := (wG cy g (z 0) (ps (ps P 0 0 (nI (pvL A.L A.S))) 0 1 (nI A.st)) ++ (wZ cy z (ps Z 0 0 0)))) dX2_shrink_59 rfl rfl iX2_shrink_X0 tyX0 tyX0_ok nmX0 (by decide) mX2_shrink_f114 rfl rfl (rfl) (rfl) (Nat.le_of_ble_eq_true rfl) (set_r rfl (wZ_s0 cy z Z 0)) ?_
      refine g_aload_n C dX2_shrink_62 3 rfl rfl ?_
      refine g_iload_n C dX2_shrink_63 0 rfl rfl ?_
      refine g_callVV C [0, 1, 2, 3, 4, 5, 6, 7, 8, 9, 10] [] [0, 1, 2, 3, 4, 5, 6, 7, 8, 9, 10] 0 2 (b := g 0) rfl rfl (As := [.int (nI A.st)]) (rest := []) (wr := ([] : va_W)) (wf := fun u1 => (wG cy g (z 0) u1.1 ++ (wZ cy z u1.2))) dX2_shrink_64 gX2_shrink_X2_setAside rfl dmX2_setAside ⟨rfl, rfl, Nat.le_of_ble_eq_true rfl, Nat.le_of_ble_eq_true rfl, Nat.zero_le _, Nat.zero_le _⟩ (c_X2_setAside l D cy cz g z (ps (ps P 0 0 (nI (pvL A.L A.S))) 0 1 (nI A.st)) (ps Z 0 0 0) A ([]) A.st hr.1 RZ_nil g3 (by rw [hr.1.1.sum g3]; show 0 + _ ≤ 264; omega)) ⟨rfl, rfl, rfl, rfl, by decide, rfl, fun _ => rfl⟩ (Nat.le_of_ble_eq_true rfl) ?_
      intro u1 hp1
      show G x l (rmF 3 108) D 5 0 0 (wG cy g (z 0) u1.1 ++ (wZ cy z u1.2)) [(3, .int (nI A.st)), (2, .int (nI (pvL A.L A.S))), (1, .int (nI A.go)), (0, .ref (g 0))] [] 67
      obtain ⟨q1, q2, q3, q4, q5⟩ := hp1
      have q5 : RZ u1.2 (A.held A.st) := q5
      refine g_aload_n C dX2_shrink_67 3 rfl rfl ?_
      refine g_iload_n C dX2_shrink_68 2 rfl rfl ?_
      refine g_callVV C [0, 1, 2, 3, 4, 5, 6, 7, 8, 9, 10] [] [0, 1, 2, 3, 4, 5, 6, 7, 8, 9, 10] 0 2 (b := g 0) rfl rfl (As := [.int (nI A.go)]) (rest := []) (wr := ([] : va_W)) (wf := fun u2 => (wG cy g (z 0) u2.1 ++ (wZ cy z u2.2))) dX2_shrink_69 gX2_shrink_X2_setAside rfl dmX2_setAside ⟨rfl, rfl, Nat.le_of_ble_eq_true rfl, Nat.le_of_ble_eq_true rfl, Nat.zero_le _, Nat.zero_le _⟩ (c_X2_setAside l D cy cz g z u1.1 u1.2 (A.clr A.st) (A.held A.st) A.go q1 q5 g4 (by rw [held_len hr.1.1 g3, q1.1.sum g4, (clr_other hr.1.1 g3 g4 (by omega)).2.2.1]; exact hcl)) ⟨rfl, rfl, rfl, rfl, by decide, rfl, fun _ => rfl⟩ (Nat.le_of_ble_eq_true rfl) ?_
      intro u2 hp2
      show G x l (rmF 3 108) D 5 0 0 (wG cy g (z 0) u2.1 ++ (wZ cy z u2.2)) [(3, .int (nI A.st)), (2, .int (nI (pvL A.L A.S))), (1, .int (nI A.go)), (0, .ref (g 0))] [] 72
      obtain ⟨r1, r2, r3, r4, r5⟩ := hp2
      rw [(clr_other hr.1.1 g3 g4 (by omega)).2.2.2] at r5
      have hA : RP A.s0 u2.1 := ⟨⟨(shrink_LI hr.1.1 hr.2.1 hn).1, r1.2⟩, shrink_WFa hr.1.1 hr.2.1 hn, r2.trans (q2.trans rfl), r3.trans (q3.trans rfl)⟩
      have hE : u2.1 0 2 = P 0 2 - nI (A.held A.st ++ A.held A.go).length := by rw [r4, q4, sub_nI, q1.1.sum g4, hr.1.1.sum g3, (clr_other hr.1.1 g3 g4 (by omega)).2.2.1, hlen]; rfl
      refine g_iconst C (v := 0) dX2_shrink_72 (by decide) ?_
      refine g_istore C (lv' := [(4, .int 0), (3, .int (nI A.st)), (2, .int (nI (pvL A.L A.S))), (1, .int (nI A.go)), (0, .ref (g 0))]) dX2_shrink_73 (by decide) rfl ?_
      refine g_loop (σ := Nat × Mem) (fun (a : Nat × Mem) => match a with | (i, Pi) => (wG cy g (z 0) Pi ++ (wZ cy z u2.2))) (fun (a : Nat × Mem) => match a with | (i, Pi) => [(4, .int (nI i)), (3, .int (nI A.st)), (2, .int (nI (pvL A.L A.S))), (1, .int (nI A.go)), (0, .ref (g 0))]) (fun (a : Nat × Mem) => match a with | (i, Pi) => (i ≤ (A.held A.st ++ A.held A.go).length) ∧ (RP (A.s0.lay ((A.held A.st ++ A.held A.go).take i)) Pi) ∧ (Pi 0 2 = P 0 2 - nI (A.held A.st ++ A.held A.go).length + nI i) ∧ (LI (A.s0.lay ((A.held A.st ++ A.held A.go).take i)) (A.fc + ((A.tl A.st).length + (A.tl A.go).length)) A.st A.go i)) (fun (a : Nat × Mem) => match a with | (i, Pi) => (A.held A.st ++ A.held A.go).length - i) ?_ (0, u2.1) (⟨Nat.zero_le _, hA, hE.trans (Int32.add_zero _).symm, shrink_LI hr.1.1 hr.2.1 hn⟩)
      intro a hI ih
      obtain ⟨i, Pi⟩ := a
      obtain ⟨i1, i2, i3, i4⟩ : (i ≤ (A.held A.st ++ A.held A.go).length) ∧ (RP (A.s0.lay ((A.held A.st ++ A.held A.go).take i)) Pi) ∧ (Pi 0 2 = P 0 2 - nI (A.held A.st ++ A.held A.go).length + nI i) ∧ (LI (A.s0.lay ((A.held A.st ++ A.held A.go).take i)) (A.fc + ((A.tl A.st).length + (A.tl A.go).length)) A.st A.go i) := hI
      show G x l (rmF 3 108) D 5 0 0 (wG cy g (z 0) Pi ++ (wZ cy z u2.2)) [(4, .int (nI i)), (3, .int (nI A.st)), (2, .int (nI (pvL A.L A.S))), (1, .int (nI A.go)), (0, .ref (g 0))] [] 75
      refine g_iload C dX2_shrink_75 0 rfl ?_
      refine g_aload_n C dX2_shrink_77 4 rfl rfl ?_
      refine g_get C 0 (f := 7) (v := .ref (z 0)) (Cn := RX2) (T := TX2) (N := 11) dX2_shrink_78 rfl rfl iX2_shrink_X2 (by decide) mX2_shrink_f33 rfl ?_
      refine g_get C 8 (f := 2) (v := .int (u2.2 0 0)) (Cn := RX0) (T := TX0) (N := 3) dX2_shrink_81 rfl rfl iX2_shrink_X0 (by decide) mX2_shrink_f114 rfl ?_
      refine g_top (b := nI (A.held A.st ++ A.held A.go).length) (r5.1) ?_
      refine g_icmp_ge C (tgt := 126) dX2_shrink_84 (by decide) (fun c3 => ?_) (fun c3 => ?_)
      · skip
        have hi : i = (A.held A.st ++ A.held A.go).length := by have := (nI_leI (by omega) (by omega)).mp c3; omega
        exact ret (Pi, u2.2) _ _ dX2_shrink_126 (⟨by rw [hi, List.take_length] at i2; unfold AS.shrink; rw [if_pos hc]; exact i2, by rw [hi] at i3; exact i3.trans (sub_add_nI _ _)⟩)
      · skip
        have hi : i < (A.held A.st ++ A.held A.go).length := Nat.lt_of_not_le (fun w => c3 (nI_le w (by omega)))
        have hz := r5.2.2 i hi
        have hbt : (A.s0.lay ((A.held A.st ++ A.held A.go).take i)).ad ((A.held A.st ++ A.held A.go).getD i (0, 0)).1 = A.st := by rw [lay_ad]; exact shrink_key hr.2.1 hn _ (getD_mem hi)
        have hm := LI_room i4 hi (shrink_room hr.1.1 hr.2.1 hn hc) (Or.inl rfl)
        refine g_iload C dX2_shrink_87 0 rfl ?_
        refine g_sipush C (v := 264) dX2_shrink_89 (by decide) ?_
        refine g_icmp_ge C (tgt := 126) dX2_shrink_92 (by decide) (fun c4 => ?_) (fun c4 => ?_)
        · skip
          exact absurd c4 (nI_ge (a := i) (b := 264) (by omega) (by decide))
        · skip
          refine g_aload_n C dX2_shrink_95 4 rfl rfl ?_
          refine g_iload_n C dX2_shrink_96 1 rfl rfl ?_
          refine g_aload_n C dX2_shrink_97 4 rfl rfl ?_
          refine g_get C 0 (f := 7) (v := .ref (z 0)) (Cn := RX2) (T := TX2) (N := 11) dX2_shrink_98 rfl rfl iX2_shrink_X2 (by decide) mX2_shrink_f33 rfl ?_
          refine g_get C 8 (f := 0) (v := .ref (z 1)) (Cn := RX0) (T := TX0) (N := 3) dX2_shrink_101 rfl rfl iX2_shrink_X0 (by decide) mX2_shrink_f123 rfl ?_
          refine g_iload C dX2_shrink_104 0 rfl ?_
          refine g_iald C 9 0 (f := u2.2 1) (N := 264) i dX2_shrink_106 rfl rfl (by decide) (rfl) (by omega) ?_
          refine g_top (b := ((A.held A.st ++ A.held A.go).getD i (0, 0)).1) (hz.1) ?_
          refine g_aload_n C dX2_shrink_107 4 rfl rfl ?_
          refine g_get C 0 (f := 7) (v := .ref (z 0)) (Cn := RX2) (T := TX2) (N := 11) dX2_shrink_108 rfl rfl iX2_shrink_X2 (by decide) mX2_shrink_f33 rfl ?_
          refine g_get C 8 (f := 1) (v := .ref (z 2)) (Cn := RX0) (T := TX0) (N := 3) dX2_shrink_111 rfl rfl iX2_shrink_X0 (by decide) mX2_shrink_f124 rfl ?_
          refine g_iload C dX2_shrink_114 0 rfl ?_
          refine g_iald C 10 0 (f := u2.2 2) (N := 264) i dX2_shrink_116 rfl rfl (by decide) (rfl) (by omega) ?_
          refine g_top (b := ((A.held A.st ++ A.held A.go).getD i (0, 0)).2) (hz.2) ?_
          refine g_callVV C [0, 1, 2, 3, 4, 5, 6, 7] [8, 9, 10] [3, 4, 5, 6, 7, 8, 9, 10, 0, 1, 2] 0 2 (b := g 0) rfl rfl (As := [.int (nI A.st), .int (((A.held A.st ++ A.held A.go).getD i (0, 0)).1), .int (((A.held A.st ++ A.held A.go).getD i (0, 0)).2)]) (rest := []) (wr := (wZ cy z u2.2)) (wf := fun P3 => (wG cy g (z 0) P3 ++ (wZ cy z u2.2))) dX2_shrink_117 gX2_shrink_X2_append rfl dmX2_append ⟨rfl, rfl, Nat.le_of_ble_eq_true rfl, Nat.le_of_ble_eq_true rfl, Nat.zero_le _, Nat.zero_le _⟩ (c_X2_append l D cy cz g (z 0) Pi (A.s0.lay ((A.held A.st ++ A.held A.go).take i)) A.st (((A.held A.st ++ A.held A.go).getD i (0, 0)).1) (((A.held A.st ++ A.held A.go).getD i (0, 0)).2) i2.1 g3 hm) ⟨rfl, rfl, rfl, rfl, by decide, rfl, fun _ => rfl⟩ (Nat.le_of_ble_eq_true rfl) ?_
          intro P3 hp3
          show G x l (rmF 3 108) D 5 0 0 (wG cy g (z 0) P3 ++ (wZ cy z u2.2)) [(4, .int (nI i)), (3, .int (nI A.st)), (2, .int (nI (pvL A.L A.S))), (1, .int (nI A.go)), (0, .ref (g 0))] [] 120
          refine g_iinc C (q := 0) (v := nI (i + 1)) (lv' := [(4, .int (nI (i + 1))), (3, .int (nI A.st)), (2, .int (nI (pvL A.L A.S))), (1, .int (nI A.go)), (0, .ref (g 0))]) dX2_shrink_120 rfl (nI_1 i) (by decide) rfl ?_
          refine g_goto C (tgt := 75) dX2_shrink_123 (by decide) ?_
          exact ih (i + 1, P3) ⟨hi, by rw [take_succ' hi, lay_snoc]; exact RP_add i2 (by rw [hbt]; exact hm) (by rw [hbt]; exact hp3.1) hp3.2.1 hp3.2.2.1, by rw [hp3.2.2.2, i3, Int32.add_assoc, nI_1], by rw [take_succ' hi, lay_snoc]; exact LI_step i4 (Or.inl hbt) (by rw [hbt]; exact hm) _ _⟩ (by show (A.held A.st ++ A.held A.go).length - (i + 1) < (A.held A.st ++ A.held A.go).length - i; omega)
    · skip
      have hc : ¬ A.can A.st A.go := fun w => by rw [if_pos w] at c2; exact absurd c2 (by decide)
      exact ret (P, Z) _ _ dX2_shrink_43 (⟨by unfold AS.shrink; rw [if_neg hc]; exact hr, rfl⟩)
  · skip
    have hS : A.S = 0 := (nI_eq (b := 0) (by omega) (by decide)).mp c1
    refine g_aload_n C dX2_shrink_14 1 rfl rfl ?_
    refine g_get C 0 (f := 8) (v := .int (P 0 0)) (Cn := RX2) (T := TX2) (N := 11) dX2_shrink_15 rfl rfl iX2_shrink_X2 (by decide) mX2_shrink_f50 rfl ?_
    refine g_top (b := nI A.L) (hr.2.2.1) ?_
    refine g_iconst C (v := 1) dX2_shrink_18 (by decide) ?_
    refine g_isub C dX2_shrink_19 ?_
    refine g_top (b := nI (pvL A.L A.S)) ((pk_sub (b := 1) (by have hq := hn; unfold AS.nb nbN at hq; rw [hS] at hq; cases hL : A.L with | zero => rw [hL] at hq; omega | succ n => omega)).trans (congrArg nI (by unfold pvL; rw [if_pos hS]))) ?_
    refine g_goto C (tgt := 27) dX2_shrink_20 (by decide) ?_
    refine g_istore_n C (lv' := [(2, .int (nI (pvL A.L A.S))), (1, .int (nI A.go)), (0, .ref (g 0))]) dX2_shrink_27 rfl (by decide) rfl ?_
    refine g_iload_n C dX2_shrink_28 1 rfl rfl ?_
    refine g_iconst C (v := 4) dX2_shrink_29 (by decide) ?_
    refine g_iload_n C dX2_shrink_30 0 rfl rfl ?_
    refine g_ishl C dX2_shrink_31 ?_
    refine g_top (b := nI (4 * 2 ^ pvL A.L A.S)) (base_eq w1) ?_
    refine g_isub C dX2_shrink_32 ?_
    refine g_top (b := nI A.st) ((pk_sub (by unfold AS.go AS.nb; omega)).trans (congrArg nI (by unfold AS.go AS.st AS.nb; omega))) ?_
    refine g_istore_n C (lv' := [(3, .int (nI A.st)), (2, .int (nI (pvL A.L A.S))), (1, .int (nI A.go)), (0, .ref (g 0))]) dX2_shrink_33 rfl (by decide) rfl ?_
    refine g_aload_n C dX2_shrink_34 3 rfl rfl ?_
    refine g_iload_n C dX2_shrink_35 0 rfl rfl ?_
    refine g_iload_n C dX2_shrink_36 2 rfl rfl ?_
    refine g_callIV C [0, 1, 2, 3, 4, 5, 6, 7] [8, 9, 10] [3, 4, 5, 6, 7, 8, 9, 10, 0, 1, 2] 0 2 (b := g 0) rfl rfl (As := [.int (nI A.st), .int (nI A.go)]) (rest := []) (wr := (wZ cy z Z)) (wf := fun _ => (wG cy g (z 0) P ++ (wZ cy z Z))) dX2_shrink_37 gX2_shrink_X2_canJoin rfl dmX2_canJoin ⟨rfl, rfl, Nat.le_of_ble_eq_true rfl, Nat.le_of_ble_eq_true rfl, Nat.zero_le _, Nat.zero_le _⟩ (c_X2_canJoin l D cy cz g (z 0) P A A.st A.go hr.1 g3 g4) ⟨rfl, rfl, rfl, rfl, by decide, rfl, fun _ => rfl⟩ (Nat.le_of_ble_eq_true rfl) ?_
    rintro _ - rfl
    show G x l (rmF 3 108) D 5 0 0 (wG cy g (z 0) P ++ (wZ cy z Z)) [(3, .int (nI A.st)), (2, .int (nI (pvL A.L A.S))), (1, .int (nI A.go)), (0, .ref (g 0))] [.int (if A.can A.st A.go then 1 else 0)] 40
    refine g_if_ne C (tgt := 44) dX2_shrink_40 (by decide) (fun c2 => ?_) (fun c2 => ?_)
    · skip
      have hc : A.can A.st A.go := Decidable.byContradiction (fun w => c2 (if_neg w))
      refine g_aload_n C dX2_shrink_44 3 rfl rfl ?_
      refine g_iload_n C dX2_shrink_45 1 rfl rfl ?_
      refine g_put C 0 (f := 8) (v := .int (nI (pvL A.L A.S))) (ty := .int) (Cn := RX2) (T := TX2) (N := 11) (ws' := (wG cy g (z 0) (ps P 0 0 (nI (pvL A.L A.S))) ++ (wZ cy z Z))) dX2_shrink_46 rfl rfl iX2_shrink_X2 tyX2 tyX2_ok nmX2 (by decide) mX2_shrink_f50 rfl rfl (rfl) (rfl) (Nat.le_of_ble_eq_true rfl) (set_l (Nat.le_of_ble_eq_true rfl) (wG_s0 cy g (z 0) P (nI (pvL A.L A.S)))) ?_
      refine g_aload_n C dX2_shrink_49 3 rfl rfl ?_
      refine g_iload_n C dX2_shrink_50 0 rfl rfl ?_
      refine g_put C 0 (f := 9) (v := .int (nI A.st)) (ty := .int) (Cn := RX2) (T := TX2) (N := 11) (ws' := (wG cy g (z 0) (ps (ps P 0 0 (nI (pvL A.L A.S))) 0 1 (nI A.st)) ++ (wZ cy z Z))) dX2_shrink_51 rfl rfl iX2_shrink_X2 tyX2 tyX2_ok nmX2 (by decide) mX2_shrink_f54 rfl rfl (rfl) (rfl) (Nat.le_of_ble_eq_true rfl) (set_l (Nat.le_of_ble_eq_true rfl) (wG_s1 cy g (z 0) (ps P 0 0 (nI (pvL A.L A.S))) (nI A.st))) ?_
      refine g_aload_n C dX2_shrink_54 3 rfl rfl ?_
      refine g_get C 0 (f := 7) (v := .ref (z 0)) (Cn := RX2) (T := TX2) (N := 11) dX2_shrink_55 rfl rfl iX2_shrink_X2 (by decide) mX2_shrink_f33 rfl ?_
      refine g_iconst C (v := 0) dX2_shrink_58 (by decide) ?_
      refine g_put C 8 (f := 2) (v := .int 0) (ty := .int) (Cn := RX0) (T := TX0) (N := 3) (ws' := (wG cy g (z 0) (ps (ps P 0 0 (nI (pvL A.L A.S))) 0 1 (nI A.st)) ++ (wZ cy z (ps Z 0 0 0)))) dX2_shrink_59 rfl rfl iX2_shrink_X0 tyX0 tyX0_ok nmX0 (by decide) mX2_shrink_f114 rfl rfl (rfl) (rfl) (Nat.le_of_ble_eq_true rfl) (set_r rfl (wZ_s0 cy z Z 0)) ?_
      refine g_aload_n C dX2_shrink_62 3 rfl rfl ?_
      refine g_iload_n C dX2_shrink_63 0 rfl rfl ?_
      refine g_callVV C [0, 1, 2, 3, 4, 5, 6, 7, 8, 9, 10] [] [0, 1, 2, 3, 4, 5, 6, 7, 8, 9, 10] 0 2 (b := g 0) rfl rfl (As := [.int (nI A.st)]) (rest := []) (wr := ([] : va_W)) (wf := fun u1 => (wG cy g (z 0) u1.1 ++ (wZ cy z u1.2))) dX2_shrink_64 gX2_shrink_X2_setAside rfl dmX2_setAside ⟨rfl, rfl, Nat.le_of_ble_eq_true rfl, Nat.le_of_ble_eq_true rfl, Nat.zero_le _, Nat.zero_le _⟩ (c_X2_setAside l D cy cz g z (ps (ps P 0 0 (nI (pvL A.L A.S))) 0 1 (nI A.st)) (ps Z 0 0 0) A ([]) A.st hr.1 RZ_nil g3 (by rw [hr.1.1.sum g3]; show 0 + _ ≤ 264; omega)) ⟨rfl, rfl, rfl, rfl, by decide, rfl, fun _ => rfl⟩ (Nat.le_of_ble_eq_true rfl) ?_
      intro u1 hp1
      show G x l (rmF 3 108) D 5 0 0 (wG cy g (z 0) u1.1 ++ (wZ cy z u1.2)) [(3, .int (nI A.st)), (2, .int (nI (pvL A.L A.S))), (1, .int (nI A.go)), (0, .ref (g 0))] [] 67
      obtain ⟨q1, q2, q3, q4, q5⟩ := hp1
      have q5 : RZ u1.2 (A.held A.st) := q5
      refine g_aload_n C dX2_shrink_67 3 rfl rfl ?_
      refine g_iload_n C dX2_shrink_68 2 rfl rfl ?_
      refine g_callVV C [0, 1, 2, 3, 4, 5, 6, 7, 8, 9, 10] [] [0, 1, 2, 3, 4, 5, 6, 7, 8, 9, 10] 0 2 (b := g 0) rfl rfl (As := [.int (nI A.go)]) (rest := []) (wr := ([] : va_W)) (wf := fun u2 => (wG cy g (z 0) u2.1 ++ (wZ cy z u2.2))) dX2_shrink_69 gX2_shrink_X2_setAside rfl dmX2_setAside ⟨rfl, rfl, Nat.le_of_ble_eq_true rfl, Nat.le_of_ble_eq_true rfl, Nat.zero_le _, Nat.zero_le _⟩ (c_X2_setAside l D cy cz g z u1.1 u1.2 (A.clr A.st) (A.held A.st) A.go q1 q5 g4 (by rw [held_len hr.1.1 g3, q1.1.sum g4, (clr_other hr.1.1 g3 g4 (by omega)).2.2.1]; exact hcl)) ⟨rfl, rfl, rfl, rfl, by decide, rfl, fun _ => rfl⟩ (Nat.le_of_ble_eq_true rfl) ?_
      intro u2 hp2
      show G x l (rmF 3 108) D 5 0 0 (wG cy g (z 0) u2.1 ++ (wZ cy z u2.2)) [(3, .int (nI A.st)), (2, .int (nI (pvL A.L A.S))), (1, .int (nI A.go)), (0, .ref (g 0))] [] 72
      obtain ⟨r1, r2, r3, r4, r5⟩ := hp2
      rw [(clr_other hr.1.1 g3 g4 (by omega)).2.2.2] at r5
      have hA : RP A.s0 u2.1 := ⟨⟨(shrink_LI hr.1.1 hr.2.1 hn).1, r1.2⟩, shrink_WFa hr.1.1 hr.2.1 hn, r2.trans (q2.trans rfl), r3.trans (q3.trans rfl)⟩
      have hE : u2.1 0 2 = P 0 2 - nI (A.held A.st ++ A.held A.go).length := by rw [r4, q4, sub_nI, q1.1.sum g4, hr.1.1.sum g3, (clr_other hr.1.1 g3 g4 (by omega)).2.2.1, hlen]; rfl
      refine g_iconst C (v := 0) dX2_shrink_72 (by decide) ?_
      refine g_istore C (lv' := [(4, .int 0), (3, .int (nI A.st)), (2, .int (nI (pvL A.L A.S))), (1, .int (nI A.go)), (0, .ref (g 0))]) dX2_shrink_73 (by decide) rfl ?_
      refine g_loop (σ := Nat × Mem) (fun (a : Nat × Mem) => match a with | (i, Pi) => (wG cy g (z 0) Pi ++ (wZ cy z u2.2))) (fun (a : Nat × Mem) => match a with | (i, Pi) => [(4, .int (nI i)), (3, .int (nI A.st)), (2, .int (nI (pvL A.L A.S))), (1, .int (nI A.go)), (0, .ref (g 0))]) (fun (a : Nat × Mem) => match a with | (i, Pi) => (i ≤ (A.held A.st ++ A.held A.go).length) ∧ (RP (A.s0.lay ((A.held A.st ++ A.held A.go).take i)) Pi) ∧ (Pi 0 2 = P 0 2 - nI (A.held A.st ++ A.held A.go).length + nI i) ∧ (LI (A.s0.lay ((A.held A.st ++ A.held A.go).take i)) (A.fc + ((A.tl A.st).length + (A.tl A.go).length)) A.st A.go i)) (fun (a : Nat × Mem) => match a with | (i, Pi) => (A.held A.st ++ A.held A.go).length - i) ?_ (0, u2.1) (⟨Nat.zero_le _, hA, hE.trans (Int32.add_zero _).symm, shrink_LI hr.1.1 hr.2.1 hn⟩)
      intro a hI ih
      obtain ⟨i, Pi⟩ := a
      obtain ⟨i1, i2, i3, i4⟩ : (i ≤ (A.held A.st ++ A.held A.go).length) ∧ (RP (A.s0.lay ((A.held A.st ++ A.held A.go).take i)) Pi) ∧ (Pi 0 2 = P 0 2 - nI (A.held A.st ++ A.held A.go).length + nI i) ∧ (LI (A.s0.lay ((A.held A.st ++ A.held A.go).take i)) (A.fc + ((A.tl A.st).length + (A.tl A.go).length)) A.st A.go i) := hI
      show G x l (rmF 3 108) D 5 0 0 (wG cy g (z 0) Pi ++ (wZ cy z u2.2)) [(4, .int (nI i)), (3, .int (nI A.st)), (2, .int (nI (pvL A.L A.S))), (1, .int (nI A.go)), (0, .ref (g 0))] [] 75
      refine g_iload C dX2_shrink_75 0 rfl ?_
      refine g_aload_n C dX2_shrink_77 4 rfl rfl ?_
      refine g_get C 0 (f := 7) (v := .ref (z 0)) (Cn := RX2) (T := TX2) (N := 11) dX2_shrink_78 rfl rfl iX2_shrink_X2 (by decide) mX2_shrink_f33 rfl ?_
      refine g_get C 8 (f := 2) (v := .int (u2.2 0 0)) (Cn := RX0) (T := TX0) (N := 3) dX2_shrink_81 rfl rfl iX2_shrink_X0 (by decide) mX2_shrink_f114 rfl ?_
      refine g_top (b := nI (A.held A.st ++ A.held A.go).length) (r5.1) ?_
      refine g_icmp_ge C (tgt := 126) dX2_shrink_84 (by decide) (fun c3 => ?_) (fun c3 => ?_)
      · skip
        have hi : i = (A.held A.st ++ A.held A.go).length := by have := (nI_leI (by omega) (by omega)).mp c3; omega
        exact ret (Pi, u2.2) _ _ dX2_shrink_126 (⟨by rw [hi, List.take_length] at i2; unfold AS.shrink; rw [if_pos hc]; exact i2, by rw [hi] at i3; exact i3.trans (sub_add_nI _ _)⟩)
      · skip
        have hi : i < (A.held A.st ++ A.held A.go).length := Nat.lt_of_not_le (fun w => c3 (nI_le w (by omega)))
        have hz := r5.2.2 i hi
        have hbt : (A.s0.lay ((A.held A.st ++ A.held A.go).take i)).ad ((A.held A.st ++ A.held A.go).getD i (0, 0)).1 = A.st := by rw [lay_ad]; exact shrink_key hr.2.1 hn _ (getD_mem hi)
        have hm := LI_room i4 hi (shrink_room hr.1.1 hr.2.1 hn hc) (Or.inl rfl)
        refine g_iload C dX2_shrink_87 0 rfl ?_
        refine g_sipush C (v := 264) dX2_shrink_89 (by decide) ?_
        refine g_icmp_ge C (tgt := 126) dX2_shrink_92 (by decide) (fun c4 => ?_) (fun c4 => ?_)
        · skip
          exact absurd c4 (nI_ge (a := i) (b := 264) (by omega) (by decide))
        · skip
          refine g_aload_n C dX2_shrink_95 4 rfl rfl ?_
          refine g_iload_n C dX2_shrink_96 1 rfl rfl ?_
          refine g_aload_n C dX2_shrink_97 4 rfl rfl ?_
          refine g_get C 0 (f := 7) (v := .ref (z 0)) (Cn := RX2) (T := TX2) (N := 11) dX2_shrink_98 rfl rfl iX2_shrink_X2 (by decide) mX2_shrink_f33 rfl ?_
          refine g_get C 8 (f := 0) (v := .ref (z 1)) (Cn := RX0) (T := TX0) (N := 3) dX2_shrink_101 rfl rfl iX2_shrink_X0 (by decide) mX2_shrink_f123 rfl ?_
          refine g_iload C dX2_shrink_104 0 rfl ?_
          refine g_iald C 9 0 (f := u2.2 1) (N := 264) i dX2_shrink_106 rfl rfl (by decide) (rfl) (by omega) ?_
          refine g_top (b := ((A.held A.st ++ A.held A.go).getD i (0, 0)).1) (hz.1) ?_
          refine g_aload_n C dX2_shrink_107 4 rfl rfl ?_
          refine g_get C 0 (f := 7) (v := .ref (z 0)) (Cn := RX2) (T := TX2) (N := 11) dX2_shrink_108 rfl rfl iX2_shrink_X2 (by decide) mX2_shrink_f33 rfl ?_
          refine g_get C 8 (f := 1) (v := .ref (z 2)) (Cn := RX0) (T := TX0) (N := 3) dX2_shrink_111 rfl rfl iX2_shrink_X0 (by decide) mX2_shrink_f124 rfl ?_
          refine g_iload C dX2_shrink_114 0 rfl ?_
          refine g_iald C 10 0 (f := u2.2 2) (N := 264) i dX2_shrink_116 rfl rfl (by decide) (rfl) (by omega) ?_
          refine g_top (b := ((A.held A.st ++ A.held A.go).getD i (0, 0)).2) (hz.2) ?_
          refine g_callVV C [0, 1, 2, 3, 4, 5, 6, 7] [8, 9, 10] [3, 4, 5, 6, 7, 8, 9, 10, 0, 1, 2] 0 2 (b := g 0) rfl rfl (As := [.int (nI A.st), .int (((A.held A.st ++ A.held A.go).getD i (0, 0)).1), .int (((A.held A.st ++ A.held A.go).getD i (0, 0)).2)]) (rest := []) (wr := (wZ cy z u2.2)) (wf := fun P3 => (wG cy g (z 0) P3 ++ (wZ cy z u2.2))) dX2_shrink_117 gX2_shrink_X2_append rfl dmX2_append ⟨rfl, rfl, Nat.le_of_ble_eq_true rfl, Nat.le_of_ble_eq_true rfl, Nat.zero_le _, Nat.zero_le _⟩ (c_X2_append l D cy cz g (z 0) Pi (A.s0.lay ((A.held A.st ++ A.held A.go).take i)) A.st (((A.held A.st ++ A.held A.go).getD i (0, 0)).1) (((A.held A.st ++ A.held A.go).getD i (0, 0)).2) i2.1 g3 hm) ⟨rfl, rfl, rfl, rfl, by decide, rfl, fun _ => rfl⟩ (Nat.le_of_ble_eq_true rfl) ?_
          intro P3 hp3
          show G x l (rmF 3 108) D 5 0 0 (wG cy g (z 0) P3 ++ (wZ cy z u2.2)) [(4, .int (nI i)), (3, .int (nI A.st)), (2, .int (nI (pvL A.L A.S))), (1, .int (nI A.go)), (0, .ref (g 0))] [] 120
          refine g_iinc C (q := 0) (v := nI (i + 1)) (lv' := [(4, .int (nI (i + 1))), (3, .int (nI A.st)), (2, .int (nI (pvL A.L A.S))), (1, .int (nI A.go)), (0, .ref (g 0))]) dX2_shrink_120 rfl (nI_1 i) (by decide) rfl ?_
          refine g_goto C (tgt := 75) dX2_shrink_123 (by decide) ?_
          exact ih (i + 1, P3) ⟨hi, by rw [take_succ' hi, lay_snoc]; exact RP_add i2 (by rw [hbt]; exact hm) (by rw [hbt]; exact hp3.1) hp3.2.1 hp3.2.2.1, by rw [hp3.2.2.2, i3, Int32.add_assoc, nI_1], by rw [take_succ' hi, lay_snoc]; exact LI_step i4 (Or.inl hbt) (by rw [hbt]; exact hm) _ _⟩ (by show (A.held A.st ++ A.held A.go).length - (i + 1) < (A.held A.st ++ A.held A.go).length - i; omega)
    · skip
      have hc : ¬ A.can A.st A.go := fun w => by rw [if_pos w] at c2; exact absurd c2 (by decide)
      exact ret (P, Z) _ _ dX2_shrink_43 (⟨by unfold AS.shrink; rw [if_neg hc]; exact hr, rfl⟩)
