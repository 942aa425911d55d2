/-! made by wip/whole/gen.py and m1.py -/
theorem mX3_begin_f27 : Cond.fieldLink RX3 27 (TX3 2).1 (TX3 2).2.1 (TX3 2).2.2.1 ∈ wsX3_begin := List.mem_of_getElem? (i := 1) rfl
theorem iX3_begin_X3 : ∀ w ∈ wsX30, w ∈ wsX3_begin := by decide +kernel
theorem mX3_begin_k66 : Cond.constant RX3 66 (-2000000002) ∈ wsX3_begin := List.mem_of_getElem? (i := 2) rfl
set_option maxHeartbeats 1600000 in
set_option maxRecDepth 20000 in
theorem c_X3_begin (l : Launch) (D : va_G) (cy cz : ClassId) (b : Nat → Nat) (g : Nat → Nat) (h : Nat → Nat) (j : Nat → Nat) (z : Nat → Nat) (B : Mem) (P : Mem) (O : Mem) (J : Mem) (Z : Mem) (T : TS) (hx : RX T (B, P, O, J, Z)) : MI l yX3_begin wsX3_begin (rmF 2 72) D (tyL cy cz) [.ref (b 0)] (wB b (g 0) (h 0) (j 0) B ++ (wG cy g (z 0) P ++ (wG cy h (z 0) O ++ (wJ cy j J ++ (wZ cy z Z))))) (fun (r : Int32) (u : M5) => r = (aBegin T).1 ∧ RX (aBegin T).2 u) (fun u => (wB b (g 0) (h 0) (j 0) u.1 ++ (wG cy g (z 0) u.2.1 ++ (wG cy h (z 0) u.2.2.1 ++ (wJ cy j u.2.2.2.1 ++ (wZ cy z u.2.2.2.2)))))) := by
  refine g_entI (cc := cX3_begin) (maxL := 1) (own := RX3) (by decide) rfl rfl (Nat.le_of_ble_eq_true rfl) (fun x C ret => ?_)
  show G x l (rmF 2 72) D 1 0 0 (wB b (g 0) (h 0) (j 0) B ++ (wG cy g (z 0) P ++ (wG cy h (z 0) O ++ (wJ cy j J ++ (wZ cy z Z))))) [(0, .ref (b 0))] [] 0
  have hj : RJ J T.w T.gs T.op := hx.2.2.2.2.1
  rcases ho : T.op with _ | m
  · skip
    rw [ho] at hj
    refine g_aload_n C dX3_begin_0 0 rfl rfl ?_
    refine g_get C 0 (f := 2) (v := .ref (j 0)) (Cn := RX3) (T := TX3) (N := 5) dX3_begin_1 rfl rfl iX3_begin_X3 (by decide) mX3_begin_f27 rfl ?_
    refine g_callIV C [17, 18, 19, 20, 21] [0, 1, 2, 3, 4, 5, 6, 7, 8, 9, 10, 11, 12, 13, 14, 15, 16, 22, 23, 24] [0, 1, 2, 3, 4, 5, 6, 7, 8, 9, 10, 11, 12, 13, 14, 15, 16, 20, 21, 22, 23, 24, 17, 18, 19] 0 1 (b := j 0) rfl rfl (As := []) (rest := []) (wr := (wB b (g 0) (h 0) (j 0) B ++ (wG cy g (z 0) P ++ (wG cy h (z 0) O ++ (wZ cy z Z))))) (wf := fun _ => (wB b (g 0) (h 0) (j 0) B ++ (wG cy g (z 0) P ++ (wG cy h (z 0) O ++ (wJ cy j J ++ (wZ cy z Z)))))) dX3_begin_4 gX3_begin_X1_isOpen rfl dmX1_isOpen ⟨rfl, rfl, Nat.le_of_ble_eq_true rfl, Nat.le_of_ble_eq_true rfl, Nat.zero_le _, Nat.zero_le _⟩ (c_X1_isOpen l D cy cz j J hj.bool) ⟨rfl, rfl, rfl, rfl, by decide, rfl, fun _ => rfl⟩ (Nat.le_of_ble_eq_true rfl) ?_
    rintro _ - rfl
    show G x l (rmF 2 72) D 1 0 0 (wB b (g 0) (h 0) (j 0) B ++ (wG cy g (z 0) P ++ (wG cy h (z 0) O ++ (wJ cy j J ++ (wZ cy z Z))))) [(0, .ref (b 0))] [.int (J 0 2)] 7
    refine g_top (b := 0) (hj.op) ?_
    refine g_if_eq C (tgt := 13) dX3_begin_7 (by decide) (fun c1 => ?_) (fun c1 => ?_)
    · skip
      refine g_aload_n C dX3_begin_13 0 rfl rfl ?_
      refine g_get C 0 (f := 2) (v := .ref (j 0)) (Cn := RX3) (T := TX3) (N := 5) dX3_begin_14 rfl rfl iX3_begin_X3 (by decide) mX3_begin_f27 rfl ?_
      refine g_callVV C [17, 18, 19, 20, 21] [0, 1, 2, 3, 4, 5, 6, 7, 8, 9, 10, 11, 12, 13, 14, 15, 16, 22, 23, 24] [0, 1, 2, 3, 4, 5, 6, 7, 8, 9, 10, 11, 12, 13, 14, 15, 16, 20, 21, 22, 23, 24, 17, 18, 19] 0 1 (b := j 0) rfl rfl (As := []) (rest := []) (wr := (wB b (g 0) (h 0) (j 0) B ++ (wG cy g (z 0) P ++ (wG cy h (z 0) O ++ (wZ cy z Z))))) (wf := fun J1 => (wB b (g 0) (h 0) (j 0) B ++ (wG cy g (z 0) P ++ (wG cy h (z 0) O ++ (wJ cy j J1 ++ (wZ cy z Z)))))) dX3_begin_17 gX3_begin_X1_openGroup rfl dmX1_openGroup ⟨rfl, rfl, Nat.le_of_ble_eq_true rfl, Nat.le_of_ble_eq_true rfl, Nat.zero_le _, Nat.zero_le _⟩ (c_X1_openGroup l D cy cz j J T.w T.gs hj) ⟨rfl, rfl, rfl, rfl, by decide, rfl, fun _ => rfl⟩ (Nat.le_of_ble_eq_true rfl) ?_
      intro J1 hp1
      show G x l (rmF 2 72) D 1 0 0 (wB b (g 0) (h 0) (j 0) B ++ (wG cy g (z 0) P ++ (wG cy h (z 0) O ++ (wJ cy j J1 ++ (wZ cy z Z))))) [(0, .ref (b 0))] [] 20
      refine g_iconst C (v := 0) dX3_begin_20 (by decide) ?_
      exact ret _ (B, P, O, J1, Z) _ _ dX3_begin_21 (by unfold aBegin; rw [ho]; exact ⟨rfl, hx.1, hx.2.1, hx.2.2.1, hx.2.2.2.1, hp1, hx.2.2.2.2.2.1, hx.2.2.2.2.2.2.1, hx.2.2.2.2.2.2.2⟩)
    · skip
      exact absurd rfl (c1)
  · skip
    rw [ho] at hj
    have hgl := hj.gl
    have hwl : T.w.length = T.gs.sum + m := hj.2.1
    refine g_aload_n C dX3_begin_0 0 rfl rfl ?_
    refine g_get C 0 (f := 2) (v := .ref (j 0)) (Cn := RX3) (T := TX3) (N := 5) dX3_begin_1 rfl rfl iX3_begin_X3 (by decide) mX3_begin_f27 rfl ?_
    refine g_callIV C [17, 18, 19, 20, 21] [0, 1, 2, 3, 4, 5, 6, 7, 8, 9, 10, 11, 12, 13, 14, 15, 16, 22, 23, 24] [0, 1, 2, 3, 4, 5, 6, 7, 8, 9, 10, 11, 12, 13, 14, 15, 16, 20, 21, 22, 23, 24, 17, 18, 19] 0 1 (b := j 0) rfl rfl (As := []) (rest := []) (wr := (wB b (g 0) (h 0) (j 0) B ++ (wG cy g (z 0) P ++ (wG cy h (z 0) O ++ (wZ cy z Z))))) (wf := fun _ => (wB b (g 0) (h 0) (j 0) B ++ (wG cy g (z 0) P ++ (wG cy h (z 0) O ++ (wJ cy j J ++ (wZ cy z Z)))))) dX3_begin_4 gX3_begin_X1_isOpen rfl dmX1_isOpen ⟨rfl, rfl, Nat.le_of_ble_eq_true rfl, Nat.le_of_ble_eq_true rfl, Nat.zero_le _, Nat.zero_le _⟩ (c_X1_isOpen l D cy cz j J hj.bool) ⟨rfl, rfl, rfl, rfl, by decide, rfl, fun _ => rfl⟩ (Nat.le_of_ble_eq_true rfl) ?_
    rintro _ - rfl
    show G x l (rmF 2 72) D 1 0 0 (wB b (g 0) (h 0) (j 0) B ++ (wG cy g (z 0) P ++ (wG cy h (z 0) O ++ (wJ cy j J ++ (wZ cy z Z))))) [(0, .ref (b 0))] [.int (J 0 2)] 7
    refine g_top (b := 1) (hj.op) ?_
    refine g_if_eq C (tgt := 13) dX3_begin_7 (by decide) (fun c1 => ?_) (fun c1 => ?_)
    · skip
      exact absurd c1 (by decide)
    · skip
      refine g_ldc C (v := (-2000000002)) mX3_begin_k66 dX3_begin_10 ?_
      exact ret _ (B, P, O, J, Z) _ _ dX3_begin_12 (by unfold aBegin; rw [ho]; exact ⟨rfl, hx⟩)

theorem mX3_end_f27 : Cond.fieldLink RX3 27 (TX3 2).1 (TX3 2).2.1 (TX3 2).2.2.1 ∈ wsX3_end := List.mem_of_getElem? (i := 1) rfl
theorem iX3_end_X3 : ∀ w ∈ wsX30, w ∈ wsX3_end := by decide +kernel
theorem mX3_end_k66 : Cond.constant RX3 66 (-2000000002) ∈ wsX3_end := List.mem_of_getElem? (i := 2) rfl
set_option maxHeartbeats 1600000 in
set_option maxRecDepth 20000 in
theorem c_X3_end (l : Launch) (D : va_G) (cy cz : ClassId) (b : Nat → Nat) (g : Nat → Nat) (h : Nat → Nat) (j : Nat → Nat) (z : Nat → Nat) (B : Mem) (P : Mem) (O : Mem) (J : Mem) (Z : Mem) (T : TS) (hx : RX T (B, P, O, J, Z)) : MI l yX3_end wsX3_end (rmF 3 108) D (tyL cy cz) [.ref (b 0)] (wB b (g 0) (h 0) (j 0) B ++ (wG cy g (z 0) P ++ (wG cy h (z 0) O ++ (wJ cy j J ++ (wZ cy z Z))))) (fun (r : Int32) (u : M5) => r = (aEnd T).1 ∧ RX (aEnd T).2 u) (fun u => (wB b (g 0) (h 0) (j 0) u.1 ++ (wG cy g (z 0) u.2.1 ++ (wG cy h (z 0) u.2.2.1 ++ (wJ cy j u.2.2.2.1 ++ (wZ cy z u.2.2.2.2)))))) := by
  refine g_entI (cc := cX3_end) (maxL := 2) (own := RX3) (by decide) rfl rfl (Nat.le_of_ble_eq_true rfl) (fun x C ret => ?_)
  show G x l (rmF 3 108) D 2 0 0 (wB b (g 0) (h 0) (j 0) B ++ (wG cy g (z 0) P ++ (wG cy h (z 0) O ++ (wJ cy j J ++ (wZ cy z Z))))) [(0, .ref (b 0))] [] 0
  have hj : RJ J T.w T.gs T.op := hx.2.2.2.2.1
  rcases ho : T.op with _ | m
  · skip
    rw [ho] at hj
    refine g_aload_n C dX3_end_0 0 rfl rfl ?_
    refine g_get C 0 (f := 2) (v := .ref (j 0)) (Cn := RX3) (T := TX3) (N := 5) dX3_end_1 rfl rfl iX3_end_X3 (by decide) mX3_end_f27 rfl ?_
    refine g_callIV C [17, 18, 19, 20, 21] [0, 1, 2, 3, 4, 5, 6, 7, 8, 9, 10, 11, 12, 13, 14, 15, 16, 22, 23, 24] [0, 1, 2, 3, 4, 5, 6, 7, 8, 9, 10, 11, 12, 13, 14, 15, 16, 20, 21, 22, 23, 24, 17, 18, 19] 0 1 (b := j 0) rfl rfl (As := []) (rest := []) (wr := (wB b (g 0) (h 0) (j 0) B ++ (wG cy g (z 0) P ++ (wG cy h (z 0) O ++ (wZ cy z Z))))) (wf := fun _ => (wB b (g 0) (h 0) (j 0) B ++ (wG cy g (z 0) P ++ (wG cy h (z 0) O ++ (wJ cy j J ++ (wZ cy z Z)))))) dX3_end_4 gX3_end_X1_isOpen rfl dmX1_isOpen ⟨rfl, rfl, Nat.le_of_ble_eq_true rfl, Nat.le_of_ble_eq_true rfl, Nat.zero_le _, Nat.zero_le _⟩ (c_X1_isOpen l D cy cz j J hj.bool) ⟨rfl, rfl, rfl, rfl, by decide, rfl, fun _ => rfl⟩ (Nat.le_of_ble_eq_true rfl) ?_
    rintro _ - rfl
    show G x l (rmF 3 108) D 2 0 0 (wB b (g 0) (h 0) (j 0) B ++ (wG cy g (z 0) P ++ (wG cy h (z 0) O ++ (wJ cy j J ++ (wZ cy z Z))))) [(0, .ref (b 0))] [.int (J 0 2)] 7
    refine g_top (b := 0) (hj.op) ?_
    refine g_if_ne C (tgt := 13) dX3_end_7 (by decide) (fun c1 => ?_) (fun c1 => ?_)
    · skip
      exact absurd rfl (c1)
    · skip
      refine g_ldc C (v := (-2000000002)) mX3_end_k66 dX3_end_10 ?_
      exact ret _ (B, P, O, J, Z) _ _ dX3_end_12 (by unfold aEnd; rw [ho]; exact ⟨rfl, hx⟩)
  · skip
    rw [ho] at hj
    have hgl := hj.gl
    have hwl : T.w.length = T.gs.sum + m := hj.2.1
    refine g_aload_n C dX3_end_0 0 rfl rfl ?_
    refine g_get C 0 (f := 2) (v := .ref (j 0)) (Cn := RX3) (T := TX3) (N := 5) dX3_end_1 rfl rfl iX3_end_X3 (by decide) mX3_end_f27 rfl ?_
    refine g_callIV C [17, 18, 19, 20, 21] [0, 1, 2, 3, 4, 5, 6, 7, 8, 9, 10, 11, 12, 13, 14, 15, 16, 22, 23, 24] [0, 1, 2, 3, 4, 5, 6, 7, 8, 9, 10, 11, 12, 13, 14, 15, 16, 20, 21, 22, 23, 24, 17, 18, 19] 0 1 (b := j 0) rfl rfl (As := []) (rest := []) (wr := (wB b (g 0) (h 0) (j 0) B ++ (wG cy g (z 0) P ++ (wG cy h (z 0) O ++ (wZ cy z Z))))) (wf := fun _ => (wB b (g 0) (h 0) (j 0) B ++ (wG cy g (z 0) P ++ (wG cy h (z 0) O ++ (wJ cy j J ++ (wZ cy z Z)))))) dX3_end_4 gX3_end_X1_isOpen rfl dmX1_isOpen ⟨rfl, rfl, Nat.le_of_ble_eq_true rfl, Nat.le_of_ble_eq_true rfl, Nat.zero_le _, Nat.zero_le _⟩ (c_X1_isOpen l D cy cz j J hj.bool) ⟨rfl, rfl, rfl, rfl, by decide, rfl, fun _ => rfl⟩ (Nat.le_of_ble_eq_true rfl) ?_
    rintro _ - rfl
    show G x l (rmF 3 108) D 2 0 0 (wB b (g 0) (h 0) (j 0) B ++ (wG cy g (z 0) P ++ (wG cy h (z 0) O ++ (wJ cy j J ++ (wZ cy z Z))))) [(0, .ref (b 0))] [.int (J 0 2)] 7
    refine g_top (b := 1) (hj.op) ?_
    refine g_if_ne C (tgt := 13) dX3_end_7 (by decide) (fun c1 => ?_) (fun c1 => ?_)
    · skip
      refine g_aload_n C dX3_end_13 0 rfl rfl ?_
      refine g_get C 0 (f := 2) (v := .ref (j 0)) (Cn := RX3) (T := TX3) (N := 5) dX3_end_14 rfl rfl iX3_end_X3 (by decide) mX3_end_f27 rfl ?_
      refine g_callIV C [17, 18, 19, 20, 21] [0, 1, 2, 3, 4, 5, 6, 7, 8, 9, 10, 11, 12, 13, 14, 15, 16, 22, 23, 24] [0, 1, 2, 3, 4, 5, 6, 7, 8, 9, 10, 11, 12, 13, 14, 15, 16, 20, 21, 22, 23, 24, 17, 18, 19] 0 1 (b := j 0) rfl rfl (As := []) (rest := []) (wr := (wB b (g 0) (h 0) (j 0) B ++ (wG cy g (z 0) P ++ (wG cy h (z 0) O ++ (wZ cy z Z))))) (wf := fun _ => (wB b (g 0) (h 0) (j 0) B ++ (wG cy g (z 0) P ++ (wG cy h (z 0) O ++ (wJ cy j J ++ (wZ cy z Z)))))) dX3_end_17 gX3_end_X1_openWrites rfl dmX1_openWrites ⟨rfl, rfl, Nat.le_of_ble_eq_true rfl, Nat.le_of_ble_eq_true rfl, Nat.zero_le _, Nat.zero_le _⟩ (c_X1_openWrites l D cy cz j J) ⟨rfl, rfl, rfl, rfl, by decide, rfl, fun _ => rfl⟩ (Nat.le_of_ble_eq_true rfl) ?_
      rintro _ - rfl
      show G x l (rmF 3 108) D 2 0 0 (wB b (g 0) (h 0) (j 0) B ++ (wG cy g (z 0) P ++ (wG cy h (z 0) O ++ (wJ cy j J ++ (wZ cy z Z))))) [(0, .ref (b 0))] [.int (if J 0 2 = 0 then 0 else J 0 0 - J 0 3)] 20
      refine g_top (b := nI m) (ow_eq hj) ?_
      refine g_istore_n C (lv' := [(1, .int (nI m)), (0, .ref (b 0))]) dX3_end_20 rfl (by decide) rfl ?_
      refine g_aload_n C dX3_end_21 1 rfl rfl ?_
      refine g_get C 0 (f := 2) (v := .ref (j 0)) (Cn := RX3) (T := TX3) (N := 5) dX3_end_22 rfl rfl iX3_end_X3 (by decide) mX3_end_f27 rfl ?_
      refine g_callVV C [17, 18, 19, 20, 21] [0, 1, 2, 3, 4, 5, 6, 7, 8, 9, 10, 11, 12, 13, 14, 15, 16, 22, 23, 24] [0, 1, 2, 3, 4, 5, 6, 7, 8, 9, 10, 11, 12, 13, 14, 15, 16, 20, 21, 22, 23, 24, 17, 18, 19] 0 1 (b := j 0) rfl rfl (As := []) (rest := []) (wr := (wB b (g 0) (h 0) (j 0) B ++ (wG cy g (z 0) P ++ (wG cy h (z 0) O ++ (wZ cy z Z))))) (wf := fun J1 => (wB b (g 0) (h 0) (j 0) B ++ (wG cy g (z 0) P ++ (wG cy h (z 0) O ++ (wJ cy j J1 ++ (wZ cy z Z)))))) dX3_end_25 gX3_end_X1_closeGroup rfl dmX1_closeGroup ⟨rfl, rfl, Nat.le_of_ble_eq_true rfl, Nat.le_of_ble_eq_true rfl, Nat.zero_le _, Nat.zero_le _⟩ (c_X1_closeGroup l D cy cz j J T.w T.gs m hj) ⟨rfl, rfl, rfl, rfl, by decide, rfl, fun _ => rfl⟩ (Nat.le_of_ble_eq_true rfl) ?_
      intro J1 hp1
      show G x l (rmF 3 108) D 2 0 0 (wB b (g 0) (h 0) (j 0) B ++ (wG cy g (z 0) P ++ (wG cy h (z 0) O ++ (wJ cy j J1 ++ (wZ cy z Z))))) [(1, .int (nI m)), (0, .ref (b 0))] [] 28
      refine g_iload_n C dX3_end_28 0 rfl rfl ?_
      exact ret _ (B, P, O, J1, Z) _ _ dX3_end_29 (by unfold aEnd; rw [ho]; exact ⟨rfl, hx.1, hx.2.1, hx.2.2.1, hx.2.2.2.1, hp1, hx.2.2.2.2.2.1, hx.2.2.2.2.2.2.1, hx.2.2.2.2.2.2.2⟩)
    · skip
      exact absurd c1 (by decide)

theorem mX3_undo_f27 : Cond.fieldLink RX3 27 (TX3 2).1 (TX3 2).2.1 (TX3 2).2.2.1 ∈ wsX3_undo := List.mem_of_getElem? (i := 1) rfl
theorem iX3_undo_X3 : ∀ w ∈ wsX30, w ∈ wsX3_undo := by decide +kernel
theorem mX3_undo_k66 : Cond.constant RX3 66 (-2000000002) ∈ wsX3_undo := List.mem_of_getElem? (i := 2) rfl
set_option maxHeartbeats 1600000 in
set_option maxRecDepth 20000 in
theorem c_X3_undo (l : Launch) (D : va_G) (cy cz : ClassId) (b : Nat → Nat) (g : Nat → Nat) (h : Nat → Nat) (j : Nat → Nat) (z : Nat → Nat) (B : Mem) (P : Mem) (O : Mem) (J : Mem) (Z : Mem) (T : TS) (hx : RX T (B, P, O, J, Z)) : MI l yX3_undo wsX3_undo (rmF 6 216) D (tyL cy cz) [.ref (b 0)] (wB b (g 0) (h 0) (j 0) B ++ (wG cy g (z 0) P ++ (wG cy h (z 0) O ++ (wJ cy j J ++ (wZ cy z Z))))) (fun (r : Int32) (u : M5) => r = (aUndo T).1 ∧ RX (aUndo T).2 u) (fun u => (wB b (g 0) (h 0) (j 0) u.1 ++ (wG cy g (z 0) u.2.1 ++ (wG cy h (z 0) u.2.2.1 ++ (wJ cy j u.2.2.2.1 ++ (wZ cy z u.2.2.2.2)))))) := by
  refine g_entI (cc := cX3_undo) (maxL := 2) (own := RX3) (by decide) rfl rfl (Nat.le_of_ble_eq_true rfl) (fun x C ret => ?_)
  show G x l (rmF 6 216) D 2 0 0 (wB b (g 0) (h 0) (j 0) B ++ (wG cy g (z 0) P ++ (wG cy h (z 0) O ++ (wJ cy j J ++ (wZ cy z Z))))) [(0, .ref (b 0))] [] 0
  have hj : RJ J T.w T.gs T.op := hx.2.2.2.2.1
  rcases ho : T.op with _ | m
  · skip
    rw [ho] at hj
    refine g_aload_n C dX3_undo_0 0 rfl rfl ?_
    refine g_get C 0 (f := 2) (v := .ref (j 0)) (Cn := RX3) (T := TX3) (N := 5) dX3_undo_1 rfl rfl iX3_undo_X3 (by decide) mX3_undo_f27 rfl ?_
    refine g_callIV C [17, 18, 19, 20, 21] [0, 1, 2, 3, 4, 5, 6, 7, 8, 9, 10, 11, 12, 13, 14, 15, 16, 22, 23, 24] [0, 1, 2, 3, 4, 5, 6, 7, 8, 9, 10, 11, 12, 13, 14, 15, 16, 20, 21, 22, 23, 24, 17, 18, 19] 0 1 (b := j 0) rfl rfl (As := []) (rest := []) (wr := (wB b (g 0) (h 0) (j 0) B ++ (wG cy g (z 0) P ++ (wG cy h (z 0) O ++ (wZ cy z Z))))) (wf := fun _ => (wB b (g 0) (h 0) (j 0) B ++ (wG cy g (z 0) P ++ (wG cy h (z 0) O ++ (wJ cy j J ++ (wZ cy z Z)))))) dX3_undo_4 gX3_undo_X1_isOpen rfl dmX1_isOpen ⟨rfl, rfl, Nat.le_of_ble_eq_true rfl, Nat.le_of_ble_eq_true rfl, Nat.zero_le _, Nat.zero_le _⟩ (c_X1_isOpen l D cy cz j J hj.bool) ⟨rfl, rfl, rfl, rfl, by decide, rfl, fun _ => rfl⟩ (Nat.le_of_ble_eq_true rfl) ?_
    rintro _ - rfl
    show G x l (rmF 6 216) D 2 0 0 (wB b (g 0) (h 0) (j 0) B ++ (wG cy g (z 0) P ++ (wG cy h (z 0) O ++ (wJ cy j J ++ (wZ cy z Z))))) [(0, .ref (b 0))] [.int (J 0 2)] 7
    refine g_top (b := 0) (hj.op) ?_
    refine g_if_ne C (tgt := 13) dX3_undo_7 (by decide) (fun c1 => ?_) (fun c1 => ?_)
    · skip
      exact absurd rfl (c1)
    · skip
      refine g_ldc C (v := (-2000000002)) mX3_undo_k66 dX3_undo_10 ?_
      exact ret _ (B, P, O, J, Z) _ _ dX3_undo_12 (by unfold aUndo; rw [ho]; exact ⟨rfl, hx⟩)
  · skip
    rw [ho] at hj
    have hgl := hj.gl
    have hwl : T.w.length = T.gs.sum + m := hj.2.1
    refine g_aload_n C dX3_undo_0 0 rfl rfl ?_
    refine g_get C 0 (f := 2) (v := .ref (j 0)) (Cn := RX3) (T := TX3) (N := 5) dX3_undo_1 rfl rfl iX3_undo_X3 (by decide) mX3_undo_f27 rfl ?_
    refine g_callIV C [17, 18, 19, 20, 21] [0, 1, 2, 3, 4, 5, 6, 7, 8, 9, 10, 11, 12, 13, 14, 15, 16, 22, 23, 24] [0, 1, 2, 3, 4, 5, 6, 7, 8, 9, 10, 11, 12, 13, 14, 15, 16, 20, 21, 22, 23, 24, 17, 18, 19] 0 1 (b := j 0) rfl rfl (As := []) (rest := []) (wr := (wB b (g 0) (h 0) (j 0) B ++ (wG cy g (z 0) P ++ (wG cy h (z 0) O ++ (wZ cy z Z))))) (wf := fun _ => (wB b (g 0) (h 0) (j 0) B ++ (wG cy g (z 0) P ++ (wG cy h (z 0) O ++ (wJ cy j J ++ (wZ cy z Z)))))) dX3_undo_4 gX3_undo_X1_isOpen rfl dmX1_isOpen ⟨rfl, rfl, Nat.le_of_ble_eq_true rfl, Nat.le_of_ble_eq_true rfl, Nat.zero_le _, Nat.zero_le _⟩ (c_X1_isOpen l D cy cz j J hj.bool) ⟨rfl, rfl, rfl, rfl, by decide, rfl, fun _ => rfl⟩ (Nat.le_of_ble_eq_true rfl) ?_
    rintro _ - rfl
    show G x l (rmF 6 216) D 2 0 0 (wB b (g 0) (h 0) (j 0) B ++ (wG cy g (z 0) P ++ (wG cy h (z 0) O ++ (wJ cy j J ++ (wZ cy z Z))))) [(0, .ref (b 0))] [.int (J 0 2)] 7
    refine g_top (b := 1) (hj.op) ?_
    refine g_if_ne C (tgt := 13) dX3_undo_7 (by decide) (fun c1 => ?_) (fun c1 => ?_)
    · skip
      refine g_aload_n C dX3_undo_13 0 rfl rfl ?_
      refine g_get C 0 (f := 2) (v := .ref (j 0)) (Cn := RX3) (T := TX3) (N := 5) dX3_undo_14 rfl rfl iX3_undo_X3 (by decide) mX3_undo_f27 rfl ?_
      refine g_callIV C [17, 18, 19, 20, 21] [0, 1, 2, 3, 4, 5, 6, 7, 8, 9, 10, 11, 12, 13, 14, 15, 16, 22, 23, 24] [0, 1, 2, 3, 4, 5, 6, 7, 8, 9, 10, 11, 12, 13, 14, 15, 16, 20, 21, 22, 23, 24, 17, 18, 19] 0 1 (b := j 0) rfl rfl (As := []) (rest := []) (wr := (wB b (g 0) (h 0) (j 0) B ++ (wG cy g (z 0) P ++ (wG cy h (z 0) O ++ (wZ cy z Z))))) (wf := fun _ => (wB b (g 0) (h 0) (j 0) B ++ (wG cy g (z 0) P ++ (wG cy h (z 0) O ++ (wJ cy j J ++ (wZ cy z Z)))))) dX3_undo_17 gX3_undo_X1_openWrites rfl dmX1_openWrites ⟨rfl, rfl, Nat.le_of_ble_eq_true rfl, Nat.le_of_ble_eq_true rfl, Nat.zero_le _, Nat.zero_le _⟩ (c_X1_openWrites l D cy cz j J) ⟨rfl, rfl, rfl, rfl, by decide, rfl, fun _ => rfl⟩ (Nat.le_of_ble_eq_true rfl) ?_
      rintro _ - rfl
      show G x l (rmF 6 216) D 2 0 0 (wB b (g 0) (h 0) (j 0) B ++ (wG cy g (z 0) P ++ (wG cy h (z 0) O ++ (wJ cy j J ++ (wZ cy z Z))))) [(0, .ref (b 0))] [.int (if J 0 2 = 0 then 0 else J 0 0 - J 0 3)] 20
      refine g_top (b := nI m) (ow_eq hj) ?_
      refine g_istore_n C (lv' := [(1, .int (nI m)), (0, .ref (b 0))]) dX3_undo_20 rfl (by decide) rfl ?_
      refine g_aload_n C dX3_undo_21 1 rfl rfl ?_
      refine g_get C 0 (f := 2) (v := .ref (j 0)) (Cn := RX3) (T := TX3) (N := 5) dX3_undo_22 rfl rfl iX3_undo_X3 (by decide) mX3_undo_f27 rfl ?_
      refine g_callVV C [17, 18, 19, 20, 21] [0, 1, 2, 3, 4, 5, 6, 7, 8, 9, 10, 11, 12, 13, 14, 15, 16, 22, 23, 24] [0, 1, 2, 3, 4, 5, 6, 7, 8, 9, 10, 11, 12, 13, 14, 15, 16, 20, 21, 22, 23, 24, 17, 18, 19] 0 1 (b := j 0) rfl rfl (As := []) (rest := []) (wr := (wB b (g 0) (h 0) (j 0) B ++ (wG cy g (z 0) P ++ (wG cy h (z 0) O ++ (wZ cy z Z))))) (wf := fun J1 => (wB b (g 0) (h 0) (j 0) B ++ (wG cy g (z 0) P ++ (wG cy h (z 0) O ++ (wJ cy j J1 ++ (wZ cy z Z)))))) dX3_undo_25 gX3_undo_X1_dropOpenGroup rfl dmX1_dropOpenGroup ⟨rfl, rfl, Nat.le_of_ble_eq_true rfl, Nat.le_of_ble_eq_true rfl, Nat.zero_le _, Nat.zero_le _⟩ (c_X1_dropOpenGroup l D cy cz j J T.w T.gs m hj) ⟨rfl, rfl, rfl, rfl, by decide, rfl, fun _ => rfl⟩ (Nat.le_of_ble_eq_true rfl) ?_
      intro J1 hp1
      show G x l (rmF 6 216) D 2 0 0 (wB b (g 0) (h 0) (j 0) B ++ (wG cy g (z 0) P ++ (wG cy h (z 0) O ++ (wJ cy j J1 ++ (wZ cy z Z))))) [(1, .int (nI m)), (0, .ref (b 0))] [] 28
      have hlt : (T.w.take T.gs.sum).length = T.gs.sum := by rw [List.length_take]; omega
      have htt : (T.w.take T.gs.sum).take T.gs.sum = T.w.take T.gs.sum := by rw [List.take_take, Nat.min_self]
      have hok : OKL (T.kl ++ T.w.take T.gs.sum) := OKL_pre hx.2.2.2.2.2.2.2 _
      refine g_aload_n C dX3_undo_28 1 rfl rfl ?_
      refine g_iload_n C dX3_undo_29 0 rfl rfl ?_
      refine g_aload_n C dX3_undo_30 1 rfl rfl ?_
      refine g_get C 0 (f := 2) (v := .ref (j 0)) (Cn := RX3) (T := TX3) (N := 5) dX3_undo_31 rfl rfl iX3_undo_X3 (by decide) mX3_undo_f27 rfl ?_
      refine g_callIV C [17, 18, 19, 20, 21] [0, 1, 2, 3, 4, 5, 6, 7, 8, 9, 10, 11, 12, 13, 14, 15, 16, 22, 23, 24] [0, 1, 2, 3, 4, 5, 6, 7, 8, 9, 10, 11, 12, 13, 14, 15, 16, 20, 21, 22, 23, 24, 17, 18, 19] 0 1 (b := j 0) rfl rfl (As := []) (rest := [.int (nI m), .ref (b 0)]) (wr := (wB b (g 0) (h 0) (j 0) B ++ (wG cy g (z 0) P ++ (wG cy h (z 0) O ++ (wZ cy z Z))))) (wf := fun _ => (wB b (g 0) (h 0) (j 0) B ++ (wG cy g (z 0) P ++ (wG cy h (z 0) O ++ (wJ cy j J1 ++ (wZ cy z Z)))))) dX3_undo_34 gX3_undo_X1_writeCount rfl dmX1_writeCount ⟨rfl, rfl, Nat.le_of_ble_eq_true rfl, Nat.le_of_ble_eq_true rfl, Nat.zero_le _, Nat.zero_le _⟩ (c_X1_writeCount l D cy cz j J1) ⟨rfl, rfl, rfl, rfl, by decide, rfl, fun _ => rfl⟩ (Nat.le_of_ble_eq_true rfl) ?_
      rintro _ - rfl
      show G x l (rmF 6 216) D 2 0 0 (wB b (g 0) (h 0) (j 0) B ++ (wG cy g (z 0) P ++ (wG cy h (z 0) O ++ (wJ cy j J1 ++ (wZ cy z Z))))) [(1, .int (nI m)), (0, .ref (b 0))] [.int (J1 0 0), .int (nI m), .ref (b 0)] 37
      refine g_top (b := nI T.gs.sum) (hp1.1.trans (congrArg nI hlt)) ?_
      refine g_callVV C [0, 1, 2, 3, 4, 5, 6, 7, 8, 9, 10, 11, 12, 13, 14, 15, 16, 17, 18, 19, 20, 21, 22, 23, 24] [] [0, 1, 2, 3, 4, 5, 6, 7, 8, 9, 10, 11, 12, 13, 14, 15, 16, 17, 18, 19, 20, 21, 22, 23, 24] 0 3 (b := b 0) rfl rfl (As := [.int (nI m), .int (nI T.gs.sum)]) (rest := []) (wr := ([] : va_W)) (wf := fun u1 => (wB b (g 0) (h 0) (j 0) u1.1 ++ (wG cy g (z 0) u1.2.1 ++ (wG cy h (z 0) O ++ (wJ cy j J1 ++ (wZ cy z u1.2.2)))))) dX3_undo_37 gX3_undo_X3_takeBack rfl dmX3_takeBack ⟨rfl, rfl, Nat.le_of_ble_eq_true rfl, Nat.le_of_ble_eq_true rfl, Nat.zero_le _, Nat.zero_le _⟩ (c_X3_takeBack l D cy cz b g h j z B P O J1 Z T.kl (T.w.take T.gs.sum) T.gs none m T.gs.sum hx.2.2.1 hx.2.2.2.1 hp1 (by rw [hlt]; exact Nat.le_refl _) hok (by omega) (fun w => by rw [htt, show T.gs.sum = T.w.length by omega, List.take_length]; exact ⟨hx.1, hx.2.1⟩)) ⟨rfl, rfl, rfl, rfl, by decide, rfl, fun _ => rfl⟩ (Nat.le_of_ble_eq_true rfl) ?_
      intro u1 hp2
      show G x l (rmF 6 216) D 2 0 0 (wB b (g 0) (h 0) (j 0) u1.1 ++ (wG cy g (z 0) u1.2.1 ++ (wG cy h (z 0) O ++ (wJ cy j J1 ++ (wZ cy z u1.2.2))))) [(1, .int (nI m)), (0, .ref (b 0))] [] 40
      refine g_iload_n C dX3_undo_40 0 rfl rfl ?_
      exact ret _ (u1.1, u1.2.1, O, J1, u1.2.2) _ _ dX3_undo_41 (by rw [htt] at hp2; exact ⟨by unfold aUndo; rw [ho], RX_undo hx ho hp2.1 hp2.2.1 hp1 hp2.2.2.1 hp2.2.2.2⟩)
    · skip
      exact absurd c1 (by decide)

theorem mX3_keep_f27 : Cond.fieldLink RX3 27 (TX3 2).1 (TX3 2).2.1 (TX3 2).2.2.1 ∈ wsX3_keep := List.mem_of_getElem? (i := 1) rfl
theorem iX3_keep_X3 : ∀ w ∈ wsX30, w ∈ wsX3_keep := by decide +kernel
theorem mX3_keep_k66 : Cond.constant RX3 66 (-2000000002) ∈ wsX3_keep := List.mem_of_getElem? (i := 2) rfl
set_option maxHeartbeats 1600000 in
set_option maxRecDepth 20000 in
theorem c_X3_keep (l : Launch) (D : va_G) (cy cz : ClassId) (b : Nat → Nat) (g : Nat → Nat) (h : Nat → Nat) (j : Nat → Nat) (z : Nat → Nat) (B : Mem) (P : Mem) (O : Mem) (J : Mem) (Z : Mem) (T : TS) (hx : RX T (B, P, O, J, Z)) : MI l yX3_keep wsX3_keep (rmF 3 108) D (tyL cy cz) [.ref (b 0)] (wB b (g 0) (h 0) (j 0) B ++ (wG cy g (z 0) P ++ (wG cy h (z 0) O ++ (wJ cy j J ++ (wZ cy z Z))))) (fun (r : Int32) (u : M5) => r = (aKeep T).1 ∧ RX (aKeep T).2 u) (fun u => (wB b (g 0) (h 0) (j 0) u.1 ++ (wG cy g (z 0) u.2.1 ++ (wG cy h (z 0) u.2.2.1 ++ (wJ cy j u.2.2.2.1 ++ (wZ cy z u.2.2.2.2)))))) := by
  refine g_entI (cc := cX3_keep) (maxL := 2) (own := RX3) (by decide) rfl rfl (Nat.le_of_ble_eq_true rfl) (fun x C ret => ?_)
  show G x l (rmF 3 108) D 2 0 0 (wB b (g 0) (h 0) (j 0) B ++ (wG cy g (z 0) P ++ (wG cy h (z 0) O ++ (wJ cy j J ++ (wZ cy z Z))))) [(0, .ref (b 0))] [] 0
  have hj : RJ J T.w T.gs T.op := hx.2.2.2.2.1
  rcases ho : T.op with _ | m
  · skip
    rw [ho] at hj
    refine g_aload_n C dX3_keep_0 0 rfl rfl ?_
    refine g_get C 0 (f := 2) (v := .ref (j 0)) (Cn := RX3) (T := TX3) (N := 5) dX3_keep_1 rfl rfl iX3_keep_X3 (by decide) mX3_keep_f27 rfl ?_
    refine g_callIV C [17, 18, 19, 20, 21] [0, 1, 2, 3, 4, 5, 6, 7, 8, 9, 10, 11, 12, 13, 14, 15, 16, 22, 23, 24] [0, 1, 2, 3, 4, 5, 6, 7, 8, 9, 10, 11, 12, 13, 14, 15, 16, 20, 21, 22, 23, 24, 17, 18, 19] 0 1 (b := j 0) rfl rfl (As := []) (rest := []) (wr := (wB b (g 0) (h 0) (j 0) B ++ (wG cy g (z 0) P ++ (wG cy h (z 0) O ++ (wZ cy z Z))))) (wf := fun _ => (wB b (g 0) (h 0) (j 0) B ++ (wG cy g (z 0) P ++ (wG cy h (z 0) O ++ (wJ cy j J ++ (wZ cy z Z)))))) dX3_keep_4 gX3_keep_X1_isOpen rfl dmX1_isOpen ⟨rfl, rfl, Nat.le_of_ble_eq_true rfl, Nat.le_of_ble_eq_true rfl, Nat.zero_le _, Nat.zero_le _⟩ (c_X1_isOpen l D cy cz j J hj.bool) ⟨rfl, rfl, rfl, rfl, by decide, rfl, fun _ => rfl⟩ (Nat.le_of_ble_eq_true rfl) ?_
    rintro _ - rfl
    show G x l (rmF 3 108) D 2 0 0 (wB b (g 0) (h 0) (j 0) B ++ (wG cy g (z 0) P ++ (wG cy h (z 0) O ++ (wJ cy j J ++ (wZ cy z Z))))) [(0, .ref (b 0))] [.int (J 0 2)] 7
    refine g_top (b := 0) (hj.op) ?_
    refine g_if_eq C (tgt := 13) dX3_keep_7 (by decide) (fun c1 => ?_) (fun c1 => ?_)
    · skip
      refine g_aload_n C dX3_keep_13 0 rfl rfl ?_
      refine g_get C 0 (f := 2) (v := .ref (j 0)) (Cn := RX3) (T := TX3) (N := 5) dX3_keep_14 rfl rfl iX3_keep_X3 (by decide) mX3_keep_f27 rfl ?_
      refine g_callIV C [17, 18, 19, 20, 21] [0, 1, 2, 3, 4, 5, 6, 7, 8, 9, 10, 11, 12, 13, 14, 15, 16, 22, 23, 24] [0, 1, 2, 3, 4, 5, 6, 7, 8, 9, 10, 11, 12, 13, 14, 15, 16, 20, 21, 22, 23, 24, 17, 18, 19] 0 1 (b := j 0) rfl rfl (As := []) (rest := []) (wr := (wB b (g 0) (h 0) (j 0) B ++ (wG cy g (z 0) P ++ (wG cy h (z 0) O ++ (wZ cy z Z))))) (wf := fun _ => (wB b (g 0) (h 0) (j 0) B ++ (wG cy g (z 0) P ++ (wG cy h (z 0) O ++ (wJ cy j J ++ (wZ cy z Z)))))) dX3_keep_17 gX3_keep_X1_writeCount rfl dmX1_writeCount ⟨rfl, rfl, Nat.le_of_ble_eq_true rfl, Nat.le_of_ble_eq_true rfl, Nat.zero_le _, Nat.zero_le _⟩ (c_X1_writeCount l D cy cz j J) ⟨rfl, rfl, rfl, rfl, by decide, rfl, fun _ => rfl⟩ (Nat.le_of_ble_eq_true rfl) ?_
      rintro _ - rfl
      show G x l (rmF 3 108) D 2 0 0 (wB b (g 0) (h 0) (j 0) B ++ (wG cy g (z 0) P ++ (wG cy h (z 0) O ++ (wJ cy j J ++ (wZ cy z Z))))) [(0, .ref (b 0))] [.int (J 0 0)] 20
      refine g_top (b := nI T.w.length) (hj.1) ?_
      refine g_istore_n C (lv' := [(1, .int (nI T.w.length)), (0, .ref (b 0))]) dX3_keep_20 rfl (by decide) rfl ?_
      refine g_aload_n C dX3_keep_21 1 rfl rfl ?_
      refine g_callVV C [0, 1, 2, 3, 4, 5, 6, 7, 8, 9, 10, 11, 12, 13, 14, 15, 16, 17, 18, 19, 20, 21] [22, 23, 24] [3, 4, 5, 6, 7, 8, 9, 10, 11, 12, 13, 14, 15, 16, 17, 18, 19, 20, 21, 22, 23, 24, 0, 1, 2] 0 3 (b := b 0) rfl rfl (As := []) (rest := []) (wr := (wZ cy z Z)) (wf := fun J1 => (wB b (g 0) (h 0) (j 0) B ++ (wG cy g (z 0) P ++ (wG cy h (z 0) P ++ (wJ cy j J1 ++ (wZ cy z Z)))))) dX3_keep_22 gX3_keep_X3_keepCurrent rfl dmX3_keepCurrent ⟨rfl, rfl, Nat.le_of_ble_eq_true rfl, Nat.le_of_ble_eq_true rfl, Nat.zero_le _, Nat.zero_le _⟩ (c_X3_keepCurrent l D cy cz b g h j z B P O J) ⟨rfl, rfl, rfl, rfl, by decide, rfl, fun _ => rfl⟩ (Nat.le_of_ble_eq_true rfl) ?_
      intro J1 hp1
      show G x l (rmF 3 108) D 2 0 0 (wB b (g 0) (h 0) (j 0) B ++ (wG cy g (z 0) P ++ (wG cy h (z 0) P ++ (wJ cy j J1 ++ (wZ cy z Z))))) [(1, .int (nI T.w.length)), (0, .ref (b 0))] [] 25
      refine g_iload_n C dX3_keep_25 0 rfl rfl ?_
      exact ret _ (B, P, P, J1, Z) _ _ dX3_keep_26 (by have hh := RX_stop (s := T.w.length) (Z1 := Z) hx (Nat.le_refl _) (by rw [List.take_length]; exact hx.1) (by rw [List.take_length]; exact hx.2.1) hp1 rfl (by rw [Nat.sub_self]; exact (Int32.sub_zero _).symm); rw [List.take_length] at hh; unfold aKeep; rw [ho]; exact ⟨rfl, hh⟩)
    · skip
      exact absurd rfl (c1)
  · skip
    rw [ho] at hj
    have hgl := hj.gl
    have hwl : T.w.length = T.gs.sum + m := hj.2.1
    refine g_aload_n C dX3_keep_0 0 rfl rfl ?_
    refine g_get C 0 (f := 2) (v := .ref (j 0)) (Cn := RX3) (T := TX3) (N := 5) dX3_keep_1 rfl rfl iX3_keep_X3 (by decide) mX3_keep_f27 rfl ?_
    refine g_callIV C [17, 18, 19, 20, 21] [0, 1, 2, 3, 4, 5, 6, 7, 8, 9, 10, 11, 12, 13, 14, 15, 16, 22, 23, 24] [0, 1, 2, 3, 4, 5, 6, 7, 8, 9, 10, 11, 12, 13, 14, 15, 16, 20, 21, 22, 23, 24, 17, 18, 19] 0 1 (b := j 0) rfl rfl (As := []) (rest := []) (wr := (wB b (g 0) (h 0) (j 0) B ++ (wG cy g (z 0) P ++ (wG cy h (z 0) O ++ (wZ cy z Z))))) (wf := fun _ => (wB b (g 0) (h 0) (j 0) B ++ (wG cy g (z 0) P ++ (wG cy h (z 0) O ++ (wJ cy j J ++ (wZ cy z Z)))))) dX3_keep_4 gX3_keep_X1_isOpen rfl dmX1_isOpen ⟨rfl, rfl, Nat.le_of_ble_eq_true rfl, Nat.le_of_ble_eq_true rfl, Nat.zero_le _, Nat.zero_le _⟩ (c_X1_isOpen l D cy cz j J hj.bool) ⟨rfl, rfl, rfl, rfl, by decide, rfl, fun _ => rfl⟩ (Nat.le_of_ble_eq_true rfl) ?_
    rintro _ - rfl
    show G x l (rmF 3 108) D 2 0 0 (wB b (g 0) (h 0) (j 0) B ++ (wG cy g (z 0) P ++ (wG cy h (z 0) O ++ (wJ cy j J ++ (wZ cy z Z))))) [(0, .ref (b 0))] [.int (J 0 2)] 7
    refine g_top (b := 1) (hj.op) ?_
    refine g_if_eq C (tgt := 13) dX3_keep_7 (by decide) (fun c1 => ?_) (fun c1 => ?_)
    · skip
      exact absurd c1 (by decide)
    · skip
      refine g_ldc C (v := (-2000000002)) mX3_keep_k66 dX3_keep_10 ?_
      exact ret _ (B, P, O, J, Z) _ _ dX3_keep_12 (by unfold aKeep; rw [ho]; exact ⟨rfl, hx⟩)

theorem mX3_stop_f27 : Cond.fieldLink RX3 27 (TX3 2).1 (TX3 2).2.1 (TX3 2).2.2.1 ∈ wsX3_stop := List.mem_of_getElem? (i := 2) rfl
theorem iX3_stop_X3 : ∀ w ∈ wsX30, w ∈ wsX3_stop := by decide +kernel
theorem mX3_stop_k32 : Cond.constant RX3 32 (-2000000001) ∈ wsX3_stop := List.mem_of_getElem? (i := 1) rfl
set_option maxHeartbeats 1600000 in
set_option maxRecDepth 20000 in
theorem c_X3_stop (l : Launch) (D : va_G) (cy cz : ClassId) (b : Nat → Nat) (g : Nat → Nat) (h : Nat → Nat) (j : Nat → Nat) (z : Nat → Nat) (B : Mem) (P : Mem) (O : Mem) (J : Mem) (Z : Mem) (T : TS) (n : Int32) (hx : RX T (B, P, O, J, Z)) : MI l yX3_stop wsX3_stop (rmF 6 216) D (tyL cy cz) [.ref (b 0), .int n] (wB b (g 0) (h 0) (j 0) B ++ (wG cy g (z 0) P ++ (wG cy h (z 0) O ++ (wJ cy j J ++ (wZ cy z Z))))) (fun (r : Int32) (u : M5) => r = (aStop T n).1 ∧ RX (aStop T n).2 u) (fun u => (wB b (g 0) (h 0) (j 0) u.1 ++ (wG cy g (z 0) u.2.1 ++ (wG cy h (z 0) u.2.2.1 ++ (wJ cy j u.2.2.2.1 ++ (wZ cy z u.2.2.2.2)))))) := by
  refine g_entI (cc := cX3_stop) (maxL := 4) (own := RX3) (by decide) rfl rfl (Nat.le_of_ble_eq_true rfl) (fun x C ret => ?_)
  show G x l (rmF 6 216) D 4 0 0 (wB b (g 0) (h 0) (j 0) B ++ (wG cy g (z 0) P ++ (wG cy h (z 0) O ++ (wJ cy j J ++ (wZ cy z Z))))) [(0, .ref (b 0)), (1, .int n)] [] 0
  refine g_iload_n C dX3_stop_0 1 rfl rfl ?_
  refine g_if_ge C (tgt := 7) dX3_stop_1 (by decide) (fun c1 => ?_) (fun c1 => ?_)
  · skip
    have hj : RJ J T.w T.gs T.op := hx.2.2.2.2.1
    have hgl := hj.gl
    obtain ⟨kk, hkk, rfl⟩ := nI_of (x := n) (Int32.not_lt.mpr c1)
    have hsu := sum_take_le T.gs kk
    show G x l (rmF 6 216) D 4 0 0 (wB b (g 0) (h 0) (j 0) B ++ (wG cy g (z 0) P ++ (wG cy h (z 0) O ++ (wJ cy j J ++ (wZ cy z Z))))) [(0, .ref (b 0)), (1, .int (nI kk))] [] 7
    refine g_aload_n C dX3_stop_7 0 rfl rfl ?_
    refine g_get C 0 (f := 2) (v := .ref (j 0)) (Cn := RX3) (T := TX3) (N := 5) dX3_stop_8 rfl rfl iX3_stop_X3 (by decide) mX3_stop_f27 rfl ?_
    refine g_iload_n C dX3_stop_11 1 rfl rfl ?_
    refine g_callIV C [17, 18, 19, 20, 21] [0, 1, 2, 3, 4, 5, 6, 7, 8, 9, 10, 11, 12, 13, 14, 15, 16, 22, 23, 24] [0, 1, 2, 3, 4, 5, 6, 7, 8, 9, 10, 11, 12, 13, 14, 15, 16, 20, 21, 22, 23, 24, 17, 18, 19] 0 1 (b := j 0) rfl rfl (As := [.int (nI kk)]) (rest := []) (wr := (wB b (g 0) (h 0) (j 0) B ++ (wG cy g (z 0) P ++ (wG cy h (z 0) O ++ (wZ cy z Z))))) (wf := fun _ => (wB b (g 0) (h 0) (j 0) B ++ (wG cy g (z 0) P ++ (wG cy h (z 0) O ++ (wJ cy j J ++ (wZ cy z Z)))))) dX3_stop_12 gX3_stop_X1_writesInFirstGroups rfl dmX1_writesInFirstGroups ⟨rfl, rfl, Nat.le_of_ble_eq_true rfl, Nat.le_of_ble_eq_true rfl, Nat.zero_le _, Nat.zero_le _⟩ (c_X1_writesInFirstGroups l D cy cz j J T.w T.gs T.op kk hj hkk) ⟨rfl, rfl, rfl, rfl, by decide, rfl, fun _ => rfl⟩ (Nat.le_of_ble_eq_true rfl) ?_
    rintro _ - rfl
    show G x l (rmF 6 216) D 4 0 0 (wB b (g 0) (h 0) (j 0) B ++ (wG cy g (z 0) P ++ (wG cy h (z 0) O ++ (wJ cy j J ++ (wZ cy z Z))))) [(0, .ref (b 0)), (1, .int (nI kk))] [.int (nI (T.gs.take kk).sum)] 15
    refine g_istore_n C (lv' := [(2, .int (nI (T.gs.take kk).sum)), (0, .ref (b 0)), (1, .int (nI kk))]) dX3_stop_15 rfl (by decide) rfl ?_
    refine g_aload_n C dX3_stop_16 1 rfl rfl ?_
    refine g_get C 0 (f := 2) (v := .ref (j 0)) (Cn := RX3) (T := TX3) (N := 5) dX3_stop_17 rfl rfl iX3_stop_X3 (by decide) mX3_stop_f27 rfl ?_
    refine g_callIV C [17, 18, 19, 20, 21] [0, 1, 2, 3, 4, 5, 6, 7, 8, 9, 10, 11, 12, 13, 14, 15, 16, 22, 23, 24] [0, 1, 2, 3, 4, 5, 6, 7, 8, 9, 10, 11, 12, 13, 14, 15, 16, 20, 21, 22, 23, 24, 17, 18, 19] 0 1 (b := j 0) rfl rfl (As := []) (rest := []) (wr := (wB b (g 0) (h 0) (j 0) B ++ (wG cy g (z 0) P ++ (wG cy h (z 0) O ++ (wZ cy z Z))))) (wf := fun _ => (wB b (g 0) (h 0) (j 0) B ++ (wG cy g (z 0) P ++ (wG cy h (z 0) O ++ (wJ cy j J ++ (wZ cy z Z)))))) dX3_stop_20 gX3_stop_X1_writeCount rfl dmX1_writeCount ⟨rfl, rfl, Nat.le_of_ble_eq_true rfl, Nat.le_of_ble_eq_true rfl, Nat.zero_le _, Nat.zero_le _⟩ (c_X1_writeCount l D cy cz j J) ⟨rfl, rfl, rfl, rfl, by decide, rfl, fun _ => rfl⟩ (Nat.le_of_ble_eq_true rfl) ?_
    rintro _ - rfl
    show G x l (rmF 6 216) D 4 0 0 (wB b (g 0) (h 0) (j 0) B ++ (wG cy g (z 0) P ++ (wG cy h (z 0) O ++ (wJ cy j J ++ (wZ cy z Z))))) [(2, .int (nI (T.gs.take kk).sum)), (0, .ref (b 0)), (1, .int (nI kk))] [.int (J 0 0)] 23
    refine g_top (b := nI T.w.length) (hj.1) ?_
    refine g_iload_n C dX3_stop_23 0 rfl rfl ?_
    refine g_isub C dX3_stop_24 ?_
    refine g_top (b := nI (T.w.length - (T.gs.take kk).sum)) (pk_sub (by omega)) ?_
    refine g_istore_n C (lv' := [(3, .int (nI (T.w.length - (T.gs.take kk).sum))), (2, .int (nI (T.gs.take kk).sum)), (0, .ref (b 0)), (1, .int (nI kk))]) dX3_stop_25 rfl (by decide) rfl ?_
    refine g_aload_n C dX3_stop_26 2 rfl rfl ?_
    refine g_iload_n C dX3_stop_27 0 rfl rfl ?_
    refine g_iload_n C dX3_stop_28 1 rfl rfl ?_
    refine g_callVV C [0, 1, 2, 3, 4, 5, 6, 7, 8, 9, 10, 11, 12, 13, 14, 15, 16, 17, 18, 19, 20, 21, 22, 23, 24] [] [0, 1, 2, 3, 4, 5, 6, 7, 8, 9, 10, 11, 12, 13, 14, 15, 16, 17, 18, 19, 20, 21, 22, 23, 24] 0 3 (b := b 0) rfl rfl (As := [.int (nI (T.w.length - (T.gs.take kk).sum)), .int (nI (T.gs.take kk).sum)]) (rest := []) (wr := ([] : va_W)) (wf := fun u1 => (wB b (g 0) (h 0) (j 0) u1.1 ++ (wG cy g (z 0) u1.2.1 ++ (wG cy h (z 0) O ++ (wJ cy j J ++ (wZ cy z u1.2.2)))))) dX3_stop_29 gX3_stop_X3_takeBack rfl dmX3_takeBack ⟨rfl, rfl, Nat.le_of_ble_eq_true rfl, Nat.le_of_ble_eq_true rfl, Nat.zero_le _, Nat.zero_le _⟩ (c_X3_takeBack l D cy cz b g h j z B P O J Z T.kl T.w T.gs T.op (T.w.length - (T.gs.take kk).sum) ((T.gs.take kk).sum) hx.2.2.1 hx.2.2.2.1 hj (by omega) hx.2.2.2.2.2.2.2 (by omega) (fun w => by rw [show (T.gs.take kk).sum = T.w.length by omega, List.take_length]; exact ⟨hx.1, hx.2.1⟩)) ⟨rfl, rfl, rfl, rfl, by decide, rfl, fun _ => rfl⟩ (Nat.le_of_ble_eq_true rfl) ?_
    intro u1 hp2
    show G x l (rmF 6 216) D 4 0 0 (wB b (g 0) (h 0) (j 0) u1.1 ++ (wG cy g (z 0) u1.2.1 ++ (wG cy h (z 0) O ++ (wJ cy j J ++ (wZ cy z u1.2.2))))) [(3, .int (nI (T.w.length - (T.gs.take kk).sum))), (2, .int (nI (T.gs.take kk).sum)), (0, .ref (b 0)), (1, .int (nI kk))] [] 32
    refine g_aload_n C dX3_stop_32 2 rfl rfl ?_
    refine g_callVV C [0, 1, 2, 3, 4, 5, 6, 7, 8, 9, 10, 11, 12, 13, 14, 15, 16, 17, 18, 19, 20, 21] [22, 23, 24] [3, 4, 5, 6, 7, 8, 9, 10, 11, 12, 13, 14, 15, 16, 17, 18, 19, 20, 21, 22, 23, 24, 0, 1, 2] 0 3 (b := b 0) rfl rfl (As := []) (rest := []) (wr := (wZ cy z u1.2.2)) (wf := fun J1 => (wB b (g 0) (h 0) (j 0) u1.1 ++ (wG cy g (z 0) u1.2.1 ++ (wG cy h (z 0) u1.2.1 ++ (wJ cy j J1 ++ (wZ cy z u1.2.2)))))) dX3_stop_33 gX3_stop_X3_keepCurrent rfl dmX3_keepCurrent ⟨rfl, rfl, Nat.le_of_ble_eq_true rfl, Nat.le_of_ble_eq_true rfl, Nat.zero_le _, Nat.zero_le _⟩ (c_X3_keepCurrent l D cy cz b g h j z u1.1 u1.2.1 O J) ⟨rfl, rfl, rfl, rfl, by decide, rfl, fun _ => rfl⟩ (Nat.le_of_ble_eq_true rfl) ?_
    intro J1 hp1
    show G x l (rmF 6 216) D 4 0 0 (wB b (g 0) (h 0) (j 0) u1.1 ++ (wG cy g (z 0) u1.2.1 ++ (wG cy h (z 0) u1.2.1 ++ (wJ cy j J1 ++ (wZ cy z u1.2.2))))) [(3, .int (nI (T.w.length - (T.gs.take kk).sum))), (2, .int (nI (T.gs.take kk).sum)), (0, .ref (b 0)), (1, .int (nI kk))] [] 36
    refine g_iload_n C dX3_stop_36 0 rfl rfl ?_
    exact ret _ (u1.1, u1.2.1, u1.2.1, J1, u1.2.2) _ _ dX3_stop_37 (by rw [aStop_in hkk]; exact ⟨rfl, RX_stop hx (by omega) hp2.1 hp2.2.1 hp1 hp2.2.2.1 hp2.2.2.2⟩)
  · skip
    refine g_ldc C (v := (-2000000001)) mX3_stop_k32 dX3_stop_4 ?_
    exact ret _ (B, P, O, J, Z) _ _ dX3_stop_6 (by rw [aStop_bad c1]; exact ⟨rfl, hx⟩)

theorem mX3_address_f17 : Cond.fieldLink RX3 17 (TX3 0).1 (TX3 0).2.1 (TX3 0).2.2.1 ∈ wsX3_address := List.mem_of_getElem? (i := 1) rfl
theorem iX3_address_X3 : ∀ w ∈ wsX30, w ∈ wsX3_address := by decide +kernel
set_option maxHeartbeats 1600000 in
set_option maxRecDepth 20000 in
theorem c_X3_address (l : Launch) (D : va_G) (cy cz : ClassId) (b : Nat → Nat) (g : Nat → Nat) (h : Nat → Nat) (j : Nat → Nat) (z : Nat → Nat) (B : Mem) (P : Mem) (O : Mem) (J : Mem) (Z : Mem) (T : TS) (k : Int32) (hx : RX T (B, P, O, J, Z)) : MI l yX3_address wsX3_address (rmF 1 36) D (tyL cy cz) [.ref (b 0), .int k] (wB b (g 0) (h 0) (j 0) B ++ (wG cy g (z 0) P ++ (wG cy h (z 0) O ++ (wJ cy j J ++ (wZ cy z Z))))) (fun (r : Int32) (u : M5) => r = nI (T.A.ad k) ∧ RX T u) (fun u => (wB b (g 0) (h 0) (j 0) u.1 ++ (wG cy g (z 0) u.2.1 ++ (wG cy h (z 0) u.2.2.1 ++ (wJ cy j u.2.2.2.1 ++ (wZ cy z u.2.2.2.2)))))) := by
  refine g_entI (cc := cX3_address) (maxL := 2) (own := RX3) (by decide) rfl rfl (Nat.le_of_ble_eq_true rfl) (fun x C ret => ?_)
  show G x l (rmF 1 36) D 2 0 0 (wB b (g 0) (h 0) (j 0) B ++ (wG cy g (z 0) P ++ (wG cy h (z 0) O ++ (wJ cy j J ++ (wZ cy z Z))))) [(0, .ref (b 0)), (1, .int k)] [] 0
  refine g_aload_n C dX3_address_0 0 rfl rfl ?_
  refine g_get C 0 (f := 0) (v := .ref (g 0)) (Cn := RX3) (T := TX3) (N := 5) dX3_address_1 rfl rfl iX3_address_X3 (by decide) mX3_address_f17 rfl ?_
  refine g_iload_n C dX3_address_4 1 rfl rfl ?_
  refine g_callIV C [1, 2, 3, 4, 5, 6, 7, 8] [0, 9, 10, 11, 12, 13, 14, 15, 16, 17, 18, 19, 20, 21, 22, 23, 24] [0, 17, 18, 19, 20, 21, 22, 23, 24, 1, 2, 3, 4, 5, 6, 7, 8, 9, 10, 11, 12, 13, 14, 15, 16] 0 2 (b := g 0) rfl rfl (As := [.int k]) (rest := []) (wr := (wB b (g 0) (h 0) (j 0) B ++ (wG cy h (z 0) O ++ (wJ cy j J ++ (wZ cy z Z))))) (wf := fun _ => (wB b (g 0) (h 0) (j 0) B ++ (wG cy g (z 0) P ++ (wG cy h (z 0) O ++ (wJ cy j J ++ (wZ cy z Z)))))) dX3_address_5 gX3_address_X2_addressOf rfl dmX2_addressOf ⟨rfl, rfl, Nat.le_of_ble_eq_true rfl, Nat.le_of_ble_eq_true rfl, Nat.zero_le _, Nat.zero_le _⟩ (c_X2_addressOf l D cy cz g (z 0) P T.A.L T.A.S k hx.1.2.2.1 hx.1.2.2.2 hx.1.2.1.1 hx.1.S64) ⟨rfl, rfl, rfl, rfl, by decide, rfl, fun _ => rfl⟩ (Nat.le_of_ble_eq_true rfl) ?_
  rintro _ - rfl
  show G x l (rmF 1 36) D 2 0 0 (wB b (g 0) (h 0) (j 0) B ++ (wG cy g (z 0) P ++ (wG cy h (z 0) O ++ (wJ cy j J ++ (wZ cy z Z))))) [(0, .ref (b 0)), (1, .int k)] [.int (nI (adr T.A.L T.A.S k))] 8
  exact ret _ (B, P, O, J, Z) _ _ dX3_address_8 (⟨rfl, hx⟩)

theorem mX3_bucket_k32 : Cond.constant RX3 32 (-2000000001) ∈ wsX3_bucket := List.mem_of_getElem? (i := 2) rfl
theorem mX3_bucket_f17 : Cond.fieldLink RX3 17 (TX3 0).1 (TX3 0).2.1 (TX3 0).2.2.1 ∈ wsX3_bucket := List.mem_of_getElem? (i := 1) rfl
theorem iX3_bucket_X3 : ∀ w ∈ wsX30, w ∈ wsX3_bucket := by decide +kernel
set_option maxHeartbeats 1600000 in
set_option maxRecDepth 20000 in
theorem c_X3_bucket (l : Launch) (D : va_G) (cy cz : ClassId) (b : Nat → Nat) (g : Nat → Nat) (h : Nat → Nat) (j : Nat → Nat) (z : Nat → Nat) (B : Mem) (P : Mem) (O : Mem) (J : Mem) (Z : Mem) (T : TS) (p : Int32) (what : Int32) (hx : RX T (B, P, O, J, Z)) : MI l yX3_bucket wsX3_bucket (rmF 3 108) D (tyL cy cz) [.ref (b 0), .int p, .int what] (wB b (g 0) (h 0) (j 0) B ++ (wG cy g (z 0) P ++ (wG cy h (z 0) O ++ (wJ cy j J ++ (wZ cy z Z))))) (fun (r : Int32) (u : M5) => r = aBucket T.A p what ∧ RX T u) (fun u => (wB b (g 0) (h 0) (j 0) u.1 ++ (wG cy g (z 0) u.2.1 ++ (wG cy h (z 0) u.2.2.1 ++ (wJ cy j u.2.2.2.1 ++ (wZ cy z u.2.2.2.2)))))) := by
  refine g_entI (cc := cX3_bucket) (maxL := 3) (own := RX3) (by decide) rfl rfl (Nat.le_of_ble_eq_true rfl) (fun x C ret => ?_)
  show G x l (rmF 3 108) D 3 0 0 (wB b (g 0) (h 0) (j 0) B ++ (wG cy g (z 0) P ++ (wG cy h (z 0) O ++ (wJ cy j J ++ (wZ cy z Z))))) [(0, .ref (b 0)), (1, .int p), (2, .int what)] [] 0
  refine g_iload_n C dX3_bucket_0 1 rfl rfl ?_
  refine g_if_lt C (tgt := 15) dX3_bucket_1 (by decide) (fun c1 => ?_) (fun c1 => ?_)
  · skip
    refine g_ldc C (v := (-2000000001)) mX3_bucket_k32 dX3_bucket_15 ?_
    exact ret _ (B, P, O, J, Z) _ _ dX3_bucket_17 (⟨(aBucket_out hx.1.nb64 (Or.inl c1)).symm, hx⟩)
  · skip
    refine g_iload_n C dX3_bucket_4 1 rfl rfl ?_
    refine g_aload_n C dX3_bucket_5 0 rfl rfl ?_
    refine g_get C 0 (f := 0) (v := .ref (g 0)) (Cn := RX3) (T := TX3) (N := 5) dX3_bucket_6 rfl rfl iX3_bucket_X3 (by decide) mX3_bucket_f17 rfl ?_
    refine g_callIV C [1, 2, 3, 4, 5, 6, 7, 8] [0, 9, 10, 11, 12, 13, 14, 15, 16, 17, 18, 19, 20, 21, 22, 23, 24] [0, 17, 18, 19, 20, 21, 22, 23, 24, 1, 2, 3, 4, 5, 6, 7, 8, 9, 10, 11, 12, 13, 14, 15, 16] 0 2 (b := g 0) rfl rfl (As := []) (rest := [.int p]) (wr := (wB b (g 0) (h 0) (j 0) B ++ (wG cy h (z 0) O ++ (wJ cy j J ++ (wZ cy z Z))))) (wf := fun _ => (wB b (g 0) (h 0) (j 0) B ++ (wG cy g (z 0) P ++ (wG cy h (z 0) O ++ (wJ cy j J ++ (wZ cy z Z)))))) dX3_bucket_9 gX3_bucket_X2_bucketCount rfl dmX2_bucketCount ⟨rfl, rfl, Nat.le_of_ble_eq_true rfl, Nat.le_of_ble_eq_true rfl, Nat.zero_le _, Nat.zero_le _⟩ (c_X2_bucketCount l D cy cz g (z 0) P) ⟨rfl, rfl, rfl, rfl, by decide, rfl, fun _ => rfl⟩ (Nat.le_of_ble_eq_true rfl) ?_
    rintro _ - rfl
    show G x l (rmF 3 108) D 3 0 0 (wB b (g 0) (h 0) (j 0) B ++ (wG cy g (z 0) P ++ (wG cy h (z 0) O ++ (wJ cy j J ++ (wZ cy z Z))))) [(0, .ref (b 0)), (1, .int p), (2, .int what)] [.int ((4 <<< (P 0 0 &&& 31)) + P 0 1), .int p] 12
    refine g_top (b := nI T.A.nb) (hx.1.nb) ?_
    refine g_icmp_lt C (tgt := 18) dX3_bucket_12 (by decide) (fun c2 => ?_) (fun c2 => ?_)
    · skip
      have n64 := hx.1.nb64
      obtain ⟨q, hq, rfl⟩ := rng (by omega) c1 c2
      have h64 : q < 64 := by omega
      show G x l (rmF 3 108) D 3 0 0 (wB b (g 0) (h 0) (j 0) B ++ (wG cy g (z 0) P ++ (wG cy h (z 0) O ++ (wJ cy j J ++ (wZ cy z Z))))) [(0, .ref (b 0)), (1, .int (nI q)), (2, .int what)] [] 18
      refine g_iload_n C dX3_bucket_18 2 rfl rfl ?_
      by_cases hsw : 0 ≤ (what).toInt ∧ (what).toInt ≤ 2
      · skip
        obtain ⟨jw, hjw, rfl⟩ : ∃ jw : Nat, jw ≤ 2 ∧ what = nI jw := sw_of hsw (by decide)
        rcases sw_2 hjw with rfl | rfl | rfl
        · skip
          refine g_tabIn C (tgt := 44) dX3_bucket_19 (by decide) (by decide) (off := 25) rfl (by decide) ?_
          show G x l (rmF 3 108) D 3 0 0 (wB b (g 0) (h 0) (j 0) B ++ (wG cy g (z 0) P ++ (wG cy h (z 0) O ++ (wJ cy j J ++ (wZ cy z Z))))) [(0, .ref (b 0)), (1, .int (nI q)), (2, .int (nI 0))] [] 44
          refine g_aload_n C dX3_bucket_44 0 rfl rfl ?_
          refine g_get C 0 (f := 0) (v := .ref (g 0)) (Cn := RX3) (T := TX3) (N := 5) dX3_bucket_45 rfl rfl iX3_bucket_X3 (by decide) mX3_bucket_f17 rfl ?_
          refine g_iload_n C dX3_bucket_48 1 rfl rfl ?_
          refine g_callIV C [1, 2, 3, 4, 5, 6, 7, 8] [0, 9, 10, 11, 12, 13, 14, 15, 16, 17, 18, 19, 20, 21, 22, 23, 24] [0, 17, 18, 19, 20, 21, 22, 23, 24, 1, 2, 3, 4, 5, 6, 7, 8, 9, 10, 11, 12, 13, 14, 15, 16] 0 2 (b := g 0) rfl rfl (As := [.int (nI q)]) (rest := []) (wr := (wB b (g 0) (h 0) (j 0) B ++ (wG cy h (z 0) O ++ (wJ cy j J ++ (wZ cy z Z))))) (wf := fun _ => (wB b (g 0) (h 0) (j 0) B ++ (wG cy g (z 0) P ++ (wG cy h (z 0) O ++ (wJ cy j J ++ (wZ cy z Z)))))) dX3_bucket_49 gX3_bucket_X2_entriesInChain rfl dmX2_entriesInChain ⟨rfl, rfl, Nat.le_of_ble_eq_true rfl, Nat.le_of_ble_eq_true rfl, Nat.zero_le _, Nat.zero_le _⟩ (c_X2_entriesInChain l D cy cz g (z 0) P T.A q hx.1.1 h64) ⟨rfl, rfl, rfl, rfl, by decide, rfl, fun _ => rfl⟩ (Nat.le_of_ble_eq_true rfl) ?_
          rintro _ - rfl
          show G x l (rmF 3 108) D 3 0 0 (wB b (g 0) (h 0) (j 0) B ++ (wG cy g (z 0) P ++ (wG cy h (z 0) O ++ (wJ cy j J ++ (wZ cy z Z))))) [(0, .ref (b 0)), (1, .int (nI q)), (2, .int (nI 0))] [.int (nI ((T.A.tl q).length * 4 + T.A.sz (T.A.la q)))] 52
          exact ret _ (B, P, O, J, Z) _ _ dX3_bucket_52 (⟨by rw [aBucket_in n64 hq (by decide)]; rfl, hx⟩)
        · skip
          refine g_tabIn C (tgt := 53) dX3_bucket_19 (by decide) (by decide) (off := 34) rfl (by decide) ?_
          show G x l (rmF 3 108) D 3 0 0 (wB b (g 0) (h 0) (j 0) B ++ (wG cy g (z 0) P ++ (wG cy h (z 0) O ++ (wJ cy j J ++ (wZ cy z Z))))) [(0, .ref (b 0)), (1, .int (nI q)), (2, .int (nI 1))] [] 53
          refine g_aload_n C dX3_bucket_53 0 rfl rfl ?_
          refine g_get C 0 (f := 0) (v := .ref (g 0)) (Cn := RX3) (T := TX3) (N := 5) dX3_bucket_54 rfl rfl iX3_bucket_X3 (by decide) mX3_bucket_f17 rfl ?_
          refine g_iload_n C dX3_bucket_57 1 rfl rfl ?_
          refine g_callIV C [1, 2, 3, 4, 5, 6, 7, 8] [0, 9, 10, 11, 12, 13, 14, 15, 16, 17, 18, 19, 20, 21, 22, 23, 24] [0, 17, 18, 19, 20, 21, 22, 23, 24, 1, 2, 3, 4, 5, 6, 7, 8, 9, 10, 11, 12, 13, 14, 15, 16] 0 2 (b := g 0) rfl rfl (As := [.int (nI q)]) (rest := []) (wr := (wB b (g 0) (h 0) (j 0) B ++ (wG cy h (z 0) O ++ (wJ cy j J ++ (wZ cy z Z))))) (wf := fun _ => (wB b (g 0) (h 0) (j 0) B ++ (wG cy g (z 0) P ++ (wG cy h (z 0) O ++ (wJ cy j J ++ (wZ cy z Z)))))) dX3_bucket_58 gX3_bucket_X2_pagesInChain rfl dmX2_pagesInChain ⟨rfl, rfl, Nat.le_of_ble_eq_true rfl, Nat.le_of_ble_eq_true rfl, Nat.zero_le _, Nat.zero_le _⟩ (c_X2_pagesInChain l D cy cz g (z 0) P q (T.A.tl q) (hx.1.1.chain h64) (by have := hx.1.1.1.len h64; omega)) ⟨rfl, rfl, rfl, rfl, by decide, rfl, fun _ => rfl⟩ (Nat.le_of_ble_eq_true rfl) ?_
          rintro _ - rfl
          show G x l (rmF 3 108) D 3 0 0 (wB b (g 0) (h 0) (j 0) B ++ (wG cy g (z 0) P ++ (wG cy h (z 0) O ++ (wJ cy j J ++ (wZ cy z Z))))) [(0, .ref (b 0)), (1, .int (nI q)), (2, .int (nI 1))] [.int (nI ((T.A.tl q).length + 1))] 61
          exact ret _ (B, P, O, J, Z) _ _ dX3_bucket_61 (⟨by rw [aBucket_in n64 hq (by decide)]; rfl, hx⟩)
        · skip
          refine g_tabIn C (tgt := 62) dX3_bucket_19 (by decide) (by decide) (off := 43) rfl (by decide) ?_
          show G x l (rmF 3 108) D 3 0 0 (wB b (g 0) (h 0) (j 0) B ++ (wG cy g (z 0) P ++ (wG cy h (z 0) O ++ (wJ cy j J ++ (wZ cy z Z))))) [(0, .ref (b 0)), (1, .int (nI q)), (2, .int (nI 2))] [] 62
          refine g_aload_n C dX3_bucket_62 0 rfl rfl ?_
          refine g_get C 0 (f := 0) (v := .ref (g 0)) (Cn := RX3) (T := TX3) (N := 5) dX3_bucket_63 rfl rfl iX3_bucket_X3 (by decide) mX3_bucket_f17 rfl ?_
          refine g_iload_n C dX3_bucket_66 1 rfl rfl ?_
          refine g_callIV C [1, 2, 3, 4, 5, 6, 7, 8] [0, 9, 10, 11, 12, 13, 14, 15, 16, 17, 18, 19, 20, 21, 22, 23, 24] [0, 17, 18, 19, 20, 21, 22, 23, 24, 1, 2, 3, 4, 5, 6, 7, 8, 9, 10, 11, 12, 13, 14, 15, 16] 0 2 (b := g 0) rfl rfl (As := [.int (nI q)]) (rest := []) (wr := (wB b (g 0) (h 0) (j 0) B ++ (wG cy h (z 0) O ++ (wJ cy j J ++ (wZ cy z Z))))) (wf := fun _ => (wB b (g 0) (h 0) (j 0) B ++ (wG cy g (z 0) P ++ (wG cy h (z 0) O ++ (wJ cy j J ++ (wZ cy z Z)))))) dX3_bucket_67 gX3_bucket_X2_lastPage rfl dmX2_lastPage ⟨rfl, rfl, Nat.le_of_ble_eq_true rfl, Nat.le_of_ble_eq_true rfl, Nat.zero_le _, Nat.zero_le _⟩ (c_X2_lastPage l D cy cz g (z 0) P q h64) ⟨rfl, rfl, rfl, rfl, by decide, rfl, fun _ => rfl⟩ (Nat.le_of_ble_eq_true rfl) ?_
          rintro _ - rfl
          show G x l (rmF 3 108) D 3 0 0 (wB b (g 0) (h 0) (j 0) B ++ (wG cy g (z 0) P ++ (wG cy h (z 0) O ++ (wJ cy j J ++ (wZ cy z Z))))) [(0, .ref (b 0)), (1, .int (nI q)), (2, .int (nI 2))] [.int (P 7 q)] 70
          refine g_top (b := nI (T.A.la q)) (hx.1.1.last h64) ?_
          exact ret _ (B, P, O, J, Z) _ _ dX3_bucket_70 (⟨by rw [aBucket_in n64 hq (by decide)]; rfl, hx⟩)
      · skip
        refine g_tabOut C (tgt := 71) dX3_bucket_19 (by omega) (by decide) ?_
        refine g_ldc C (v := (-2000000001)) mX3_bucket_k32 dX3_bucket_71 ?_
        exact ret _ (B, P, O, J, Z) _ _ dX3_bucket_73 (⟨(aBucket_sw hsw).symm, hx⟩)
    · skip
      refine g_ldc C (v := (-2000000001)) mX3_bucket_k32 dX3_bucket_15 ?_
      exact ret _ (B, P, O, J, Z) _ _ dX3_bucket_17 (⟨(aBucket_out hx.1.nb64 (Or.inr c2)).symm, hx⟩)

theorem mX3_page_f17 : Cond.fieldLink RX3 17 (TX3 0).1 (TX3 0).2.1 (TX3 0).2.2.1 ∈ wsX3_page := List.mem_of_getElem? (i := 2) rfl
theorem iX3_page_X3 : ∀ w ∈ wsX30, w ∈ wsX3_page := by decide +kernel
theorem mX3_page_k32 : Cond.constant RX3 32 (-2000000001) ∈ wsX3_page := List.mem_of_getElem? (i := 1) rfl
set_option maxHeartbeats 1600000 in
set_option maxRecDepth 20000 in
theorem c_X3_page (l : Launch) (D : va_G) (cy cz : ClassId) (b : Nat → Nat) (g : Nat → Nat) (h : Nat → Nat) (j : Nat → Nat) (z : Nat → Nat) (B : Mem) (P : Mem) (O : Mem) (J : Mem) (Z : Mem) (T : TS) (p : Int32) (what : Int32) (hx : RX T (B, P, O, J, Z)) : MI l yX3_page wsX3_page (rmF 2 72) D (tyL cy cz) [.ref (b 0), .int p, .int what] (wB b (g 0) (h 0) (j 0) B ++ (wG cy g (z 0) P ++ (wG cy h (z 0) O ++ (wJ cy j J ++ (wZ cy z Z))))) (fun (r : Int32) (u : M5) => r = aPage T.A p what ∧ RX T u) (fun u => (wB b (g 0) (h 0) (j 0) u.1 ++ (wG cy g (z 0) u.2.1 ++ (wG cy h (z 0) u.2.2.1 ++ (wJ cy j u.2.2.2.1 ++ (wZ cy z u.2.2.2.2)))))) := by
  refine g_entI (cc := cX3_page) (maxL := 3) (own := RX3) (by decide) rfl rfl (Nat.le_of_ble_eq_true rfl) (fun x C ret => ?_)
  show G x l (rmF 2 72) D 3 0 0 (wB b (g 0) (h 0) (j 0) B ++ (wG cy g (z 0) P ++ (wG cy h (z 0) O ++ (wJ cy j J ++ (wZ cy z Z))))) [(0, .ref (b 0)), (1, .int p), (2, .int what)] [] 0
  refine g_iload_n C dX3_page_0 1 rfl rfl ?_
  refine g_callIS C [] [0, 1, 2, 3, 4, 5, 6, 7, 8, 9, 10, 11, 12, 13, 14, 15, 16, 17, 18, 19, 20, 21, 22, 23, 24] [0, 1, 2, 3, 4, 5, 6, 7, 8, 9, 10, 11, 12, 13, 14, 15, 16, 17, 18, 19, 20, 21, 22, 23, 24] (As := [.int p]) (rest := []) (wr := (wB b (g 0) (h 0) (j 0) B ++ (wG cy g (z 0) P ++ (wG cy h (z 0) O ++ (wJ cy j J ++ (wZ cy z Z)))))) (wf := fun _ => (wB b (g 0) (h 0) (j 0) B ++ (wG cy g (z 0) P ++ (wG cy h (z 0) O ++ (wJ cy j J ++ (wZ cy z Z)))))) dX3_page_1 gX3_page_X3_isPage rfl dmX3_isPage ⟨rfl, rfl, Nat.le_of_ble_eq_true rfl, Nat.le_of_ble_eq_true rfl, Nat.zero_le _, Nat.zero_le _⟩ (c_X3_isPage l D cy cz p) ⟨rfl, rfl, rfl, rfl, by decide, rfl, fun _ => rfl⟩ (Nat.le_of_ble_eq_true rfl) ?_
  rintro _ - rfl
  show G x l (rmF 2 72) D 3 0 0 (wB b (g 0) (h 0) (j 0) B ++ (wG cy g (z 0) P ++ (wG cy h (z 0) O ++ (wJ cy j J ++ (wZ cy z Z))))) [(0, .ref (b 0)), (1, .int p), (2, .int what)] [.int (inI 128 p)] 4
  refine g_if_ne C (tgt := 10) dX3_page_4 (by decide) (fun c1 => ?_) (fun c1 => ?_)
  · skip
    obtain ⟨q, hq, rfl⟩ := inI_nat (N := 128) (by decide) c1
    show G x l (rmF 2 72) D 3 0 0 (wB b (g 0) (h 0) (j 0) B ++ (wG cy g (z 0) P ++ (wG cy h (z 0) O ++ (wJ cy j J ++ (wZ cy z Z))))) [(0, .ref (b 0)), (1, .int (nI q)), (2, .int what)] [] 10
    refine g_iload_n C dX3_page_10 2 rfl rfl ?_
    by_cases hsw : 0 ≤ (what).toInt ∧ (what).toInt ≤ 2
    · skip
      obtain ⟨jw, hjw, rfl⟩ : ∃ jw : Nat, jw ≤ 2 ∧ what = nI jw := sw_of hsw (by decide)
      rcases sw_2 hjw with rfl | rfl | rfl
      · skip
        refine g_tabIn C (tgt := 36) dX3_page_11 (by decide) (by decide) (off := 25) rfl (by decide) ?_
        show G x l (rmF 2 72) D 3 0 0 (wB b (g 0) (h 0) (j 0) B ++ (wG cy g (z 0) P ++ (wG cy h (z 0) O ++ (wJ cy j J ++ (wZ cy z Z))))) [(0, .ref (b 0)), (1, .int (nI q)), (2, .int (nI 0))] [] 36
        refine g_aload_n C dX3_page_36 0 rfl rfl ?_
        refine g_get C 0 (f := 0) (v := .ref (g 0)) (Cn := RX3) (T := TX3) (N := 5) dX3_page_37 rfl rfl iX3_page_X3 (by decide) mX3_page_f17 rfl ?_
        refine g_iload_n C dX3_page_40 1 rfl rfl ?_
        refine g_callIV C [1, 2, 3, 4, 5, 6, 7, 8] [0, 9, 10, 11, 12, 13, 14, 15, 16, 17, 18, 19, 20, 21, 22, 23, 24] [0, 17, 18, 19, 20, 21, 22, 23, 24, 1, 2, 3, 4, 5, 6, 7, 8, 9, 10, 11, 12, 13, 14, 15, 16] 0 2 (b := g 0) rfl rfl (As := [.int (nI q)]) (rest := []) (wr := (wB b (g 0) (h 0) (j 0) B ++ (wG cy h (z 0) O ++ (wJ cy j J ++ (wZ cy z Z))))) (wf := fun _ => (wB b (g 0) (h 0) (j 0) B ++ (wG cy g (z 0) P ++ (wG cy h (z 0) O ++ (wJ cy j J ++ (wZ cy z Z)))))) dX3_page_41 gX3_page_X2_entriesOnPage rfl dmX2_entriesOnPage ⟨rfl, rfl, Nat.le_of_ble_eq_true rfl, Nat.le_of_ble_eq_true rfl, Nat.zero_le _, Nat.zero_le _⟩ (c_X2_entriesOnPage l D cy cz g (z 0) P q hq) ⟨rfl, rfl, rfl, rfl, by decide, rfl, fun _ => rfl⟩ (Nat.le_of_ble_eq_true rfl) ?_
        rintro _ - rfl
        show G x l (rmF 2 72) D 3 0 0 (wB b (g 0) (h 0) (j 0) B ++ (wG cy g (z 0) P ++ (wG cy h (z 0) O ++ (wJ cy j J ++ (wZ cy z Z))))) [(0, .ref (b 0)), (1, .int (nI q)), (2, .int (nI 0))] [.int (P 3 q)] 44
        refine g_top (b := nI (T.A.sz q)) (hx.1.1.used hq) ?_
        exact ret _ (B, P, O, J, Z) _ _ dX3_page_44 (⟨by rw [aPage_in hq (by decide)]; rfl, hx⟩)
      · skip
        refine g_tabIn C (tgt := 45) dX3_page_11 (by decide) (by decide) (off := 34) rfl (by decide) ?_
        show G x l (rmF 2 72) D 3 0 0 (wB b (g 0) (h 0) (j 0) B ++ (wG cy g (z 0) P ++ (wG cy h (z 0) O ++ (wJ cy j J ++ (wZ cy z Z))))) [(0, .ref (b 0)), (1, .int (nI q)), (2, .int (nI 1))] [] 45
        refine g_aload_n C dX3_page_45 0 rfl rfl ?_
        refine g_get C 0 (f := 0) (v := .ref (g 0)) (Cn := RX3) (T := TX3) (N := 5) dX3_page_46 rfl rfl iX3_page_X3 (by decide) mX3_page_f17 rfl ?_
        refine g_iload_n C dX3_page_49 1 rfl rfl ?_
        refine g_callIV C [1, 2, 3, 4, 5, 6, 7, 8] [0, 9, 10, 11, 12, 13, 14, 15, 16, 17, 18, 19, 20, 21, 22, 23, 24] [0, 17, 18, 19, 20, 21, 22, 23, 24, 1, 2, 3, 4, 5, 6, 7, 8, 9, 10, 11, 12, 13, 14, 15, 16] 0 2 (b := g 0) rfl rfl (As := [.int (nI q)]) (rest := []) (wr := (wB b (g 0) (h 0) (j 0) B ++ (wG cy h (z 0) O ++ (wJ cy j J ++ (wZ cy z Z))))) (wf := fun _ => (wB b (g 0) (h 0) (j 0) B ++ (wG cy g (z 0) P ++ (wG cy h (z 0) O ++ (wJ cy j J ++ (wZ cy z Z)))))) dX3_page_50 gX3_page_X2_pageBehind rfl dmX2_pageBehind ⟨rfl, rfl, Nat.le_of_ble_eq_true rfl, Nat.le_of_ble_eq_true rfl, Nat.zero_le _, Nat.zero_le _⟩ (c_X2_pageBehind l D cy cz g (z 0) P q hq) ⟨rfl, rfl, rfl, rfl, by decide, rfl, fun _ => rfl⟩ (Nat.le_of_ble_eq_true rfl) ?_
        rintro _ - rfl
        show G x l (rmF 2 72) D 3 0 0 (wB b (g 0) (h 0) (j 0) B ++ (wG cy g (z 0) P ++ (wG cy h (z 0) O ++ (wJ cy j J ++ (wZ cy z Z))))) [(0, .ref (b 0)), (1, .int (nI q)), (2, .int (nI 1))] [.int (P 4 q)] 53
        refine g_top (b := T.A.lk q) (hx.lk hq) ?_
        exact ret _ (B, P, O, J, Z) _ _ dX3_page_53 (⟨by rw [aPage_in hq (by decide)]; rfl, hx⟩)
      · skip
        refine g_tabIn C (tgt := 54) dX3_page_11 (by decide) (by decide) (off := 43) rfl (by decide) ?_
        show G x l (rmF 2 72) D 3 0 0 (wB b (g 0) (h 0) (j 0) B ++ (wG cy g (z 0) P ++ (wG cy h (z 0) O ++ (wJ cy j J ++ (wZ cy z Z))))) [(0, .ref (b 0)), (1, .int (nI q)), (2, .int (nI 2))] [] 54
        refine g_aload_n C dX3_page_54 0 rfl rfl ?_
        refine g_get C 0 (f := 0) (v := .ref (g 0)) (Cn := RX3) (T := TX3) (N := 5) dX3_page_55 rfl rfl iX3_page_X3 (by decide) mX3_page_f17 rfl ?_
        refine g_iload_n C dX3_page_58 1 rfl rfl ?_
        refine g_callIV C [1, 2, 3, 4, 5, 6, 7, 8] [0, 9, 10, 11, 12, 13, 14, 15, 16, 17, 18, 19, 20, 21, 22, 23, 24] [0, 17, 18, 19, 20, 21, 22, 23, 24, 1, 2, 3, 4, 5, 6, 7, 8, 9, 10, 11, 12, 13, 14, 15, 16] 0 2 (b := g 0) rfl rfl (As := [.int (nI q)]) (rest := []) (wr := (wB b (g 0) (h 0) (j 0) B ++ (wG cy h (z 0) O ++ (wJ cy j J ++ (wZ cy z Z))))) (wf := fun _ => (wB b (g 0) (h 0) (j 0) B ++ (wG cy g (z 0) P ++ (wG cy h (z 0) O ++ (wJ cy j J ++ (wZ cy z Z)))))) dX3_page_59 gX3_page_X2_bucketOfPage rfl dmX2_bucketOfPage ⟨rfl, rfl, Nat.le_of_ble_eq_true rfl, Nat.le_of_ble_eq_true rfl, Nat.zero_le _, Nat.zero_le _⟩ (c_X2_bucketOfPage l D cy cz g (z 0) P T.A q hx.1 hq) ⟨rfl, rfl, rfl, rfl, by decide, rfl, fun _ => rfl⟩ (Nat.le_of_ble_eq_true rfl) ?_
        rintro _ - rfl
        show G x l (rmF 2 72) D 3 0 0 (wB b (g 0) (h 0) (j 0) B ++ (wG cy g (z 0) P ++ (wG cy h (z 0) O ++ (wJ cy j J ++ (wZ cy z Z))))) [(0, .ref (b 0)), (1, .int (nI q)), (2, .int (nI 2))] [.int (if q < 64 then (if q < T.A.nb then nI q else vNONE) else P 6 q)] 62
        refine g_top (b := ocI (T.A.own q)) (own_eq hx.1 hq) ?_
        exact ret _ (B, P, O, J, Z) _ _ dX3_page_62 (⟨by rw [aPage_in hq (by decide)]; rfl, hx⟩)
    · skip
      refine g_tabOut C (tgt := 63) dX3_page_11 (by omega) (by decide) ?_
      refine g_ldc C (v := (-2000000001)) mX3_page_k32 dX3_page_63 ?_
      exact ret _ (B, P, O, J, Z) _ _ dX3_page_65 (⟨(aPage_sw hsw).symm, hx⟩)
  · skip
    refine g_ldc C (v := (-2000000001)) mX3_page_k32 dX3_page_7 ?_
    exact ret _ (B, P, O, J, Z) _ _ dX3_page_9 (⟨(aPage_out c1).symm, hx⟩)

theorem mX3_cell_k32 : Cond.constant RX3 32 (-2000000001) ∈ wsX3_cell := List.mem_of_getElem? (i := 1) rfl
theorem mX3_cell_f17 : Cond.fieldLink RX3 17 (TX3 0).1 (TX3 0).2.1 (TX3 0).2.2.1 ∈ wsX3_cell := List.mem_of_getElem? (i := 2) rfl
theorem iX3_cell_X3 : ∀ w ∈ wsX30, w ∈ wsX3_cell := by decide +kernel
theorem mX3_cell_k66 : Cond.constant RX3 66 (-2000000002) ∈ wsX3_cell := List.mem_of_getElem? (i := 3) rfl
set_option maxHeartbeats 1600000 in
set_option maxRecDepth 20000 in
theorem c_X3_cell (l : Launch) (D : va_G) (cy cz : ClassId) (b : Nat → Nat) (g : Nat → Nat) (h : Nat → Nat) (j : Nat → Nat) (z : Nat → Nat) (B : Mem) (P : Mem) (O : Mem) (J : Mem) (Z : Mem) (T : TS) (p : Int32) (i : Int32) (what : Int32) (hx : RX T (B, P, O, J, Z)) : MI l yX3_cell wsX3_cell (rmF 2 72) D (tyL cy cz) [.ref (b 0), .int p, .int i, .int what] (wB b (g 0) (h 0) (j 0) B ++ (wG cy g (z 0) P ++ (wG cy h (z 0) O ++ (wJ cy j J ++ (wZ cy z Z))))) (fun (r : Int32) (u : M5) => r = aCell T.A p i what ∧ RX T u) (fun u => (wB b (g 0) (h 0) (j 0) u.1 ++ (wG cy g (z 0) u.2.1 ++ (wG cy h (z 0) u.2.2.1 ++ (wJ cy j u.2.2.2.1 ++ (wZ cy z u.2.2.2.2)))))) := by
  refine g_entI (cc := cX3_cell) (maxL := 5) (own := RX3) (by decide) rfl rfl (Nat.le_of_ble_eq_true rfl) (fun x C ret => ?_)
  show G x l (rmF 2 72) D 5 0 0 (wB b (g 0) (h 0) (j 0) B ++ (wG cy g (z 0) P ++ (wG cy h (z 0) O ++ (wJ cy j J ++ (wZ cy z Z))))) [(0, .ref (b 0)), (1, .int p), (2, .int i), (3, .int what)] [] 0
  refine g_iload_n C dX3_cell_0 1 rfl rfl ?_
  refine g_callIS C [] [0, 1, 2, 3, 4, 5, 6, 7, 8, 9, 10, 11, 12, 13, 14, 15, 16, 17, 18, 19, 20, 21, 22, 23, 24] [0, 1, 2, 3, 4, 5, 6, 7, 8, 9, 10, 11, 12, 13, 14, 15, 16, 17, 18, 19, 20, 21, 22, 23, 24] (As := [.int p]) (rest := []) (wr := (wB b (g 0) (h 0) (j 0) B ++ (wG cy g (z 0) P ++ (wG cy h (z 0) O ++ (wJ cy j J ++ (wZ cy z Z)))))) (wf := fun _ => (wB b (g 0) (h 0) (j 0) B ++ (wG cy g (z 0) P ++ (wG cy h (z 0) O ++ (wJ cy j J ++ (wZ cy z Z)))))) dX3_cell_1 gX3_cell_X3_isPage rfl dmX3_isPage ⟨rfl, rfl, Nat.le_of_ble_eq_true rfl, Nat.le_of_ble_eq_true rfl, Nat.zero_le _, Nat.zero_le _⟩ (c_X3_isPage l D cy cz p) ⟨rfl, rfl, rfl, rfl, by decide, rfl, fun _ => rfl⟩ (Nat.le_of_ble_eq_true rfl) ?_
  rintro _ - rfl
  show G x l (rmF 2 72) D 5 0 0 (wB b (g 0) (h 0) (j 0) B ++ (wG cy g (z 0) P ++ (wG cy h (z 0) O ++ (wJ cy j J ++ (wZ cy z Z))))) [(0, .ref (b 0)), (1, .int p), (2, .int i), (3, .int what)] [.int (inI 128 p)] 4
  refine g_if_eq C (tgt := 25) dX3_cell_4 (by decide) (fun c1 => ?_) (fun c1 => ?_)
  · skip
    refine g_ldc C (v := (-2000000001)) mX3_cell_k32 dX3_cell_25 ?_
    exact ret _ (B, P, O, J, Z) _ _ dX3_cell_27 (⟨(aCell_bad (Or.inl c1)).symm, hx⟩)
  · skip
    refine g_iload_n C dX3_cell_7 2 rfl rfl ?_
    refine g_if_lt C (tgt := 25) dX3_cell_8 (by decide) (fun c2 => ?_) (fun c2 => ?_)
    · skip
      refine g_ldc C (v := (-2000000001)) mX3_cell_k32 dX3_cell_25 ?_
      exact ret _ (B, P, O, J, Z) _ _ dX3_cell_27 (⟨(aCell_bad (Or.inr (Or.inl c2))).symm, hx⟩)
    · skip
      refine g_iload_n C dX3_cell_11 2 rfl rfl ?_
      refine g_iconst C (v := 4) dX3_cell_12 (by decide) ?_
      refine g_icmp_ge C (tgt := 25) dX3_cell_13 (by decide) (fun c3 => ?_) (fun c3 => ?_)
      · skip
        refine g_ldc C (v := (-2000000001)) mX3_cell_k32 dX3_cell_25 ?_
        exact ret _ (B, P, O, J, Z) _ _ dX3_cell_27 (⟨(aCell_bad (Or.inr (Or.inr (Or.inl c3)))).symm, hx⟩)
      · skip
        refine g_iload_n C dX3_cell_16 3 rfl rfl ?_
        refine g_if_lt C (tgt := 25) dX3_cell_17 (by decide) (fun c4 => ?_) (fun c4 => ?_)
        · skip
          refine g_ldc C (v := (-2000000001)) mX3_cell_k32 dX3_cell_25 ?_
          exact ret _ (B, P, O, J, Z) _ _ dX3_cell_27 (⟨(aCell_bad (Or.inr (Or.inr (Or.inr (Or.inl c4))))).symm, hx⟩)
        · skip
          refine g_iload_n C dX3_cell_20 3 rfl rfl ?_
          refine g_iconst C (v := 1) dX3_cell_21 (by decide) ?_
          refine g_icmp_le C (tgt := 28) dX3_cell_22 (by decide) (fun c5 => ?_) (fun c5 => ?_)
          · skip
            obtain ⟨q, hq, rfl⟩ := inI_nat (N := 128) (by decide) c1
            obtain ⟨ii, hii, rfl⟩ := rng (n := 4) (by decide) c2 (Int32.not_le.mp c3)
            obtain ⟨kk, hkk, rfl⟩ := rng (n := 2) (by decide) c4 (Int32.lt_of_le_of_lt c5 (by decide))
            show G x l (rmF 2 72) D 5 0 0 (wB b (g 0) (h 0) (j 0) B ++ (wG cy g (z 0) P ++ (wG cy h (z 0) O ++ (wJ cy j J ++ (wZ cy z Z))))) [(0, .ref (b 0)), (1, .int (nI q)), (2, .int (nI ii)), (3, .int (nI kk))] [] 28
            refine g_iload_n C dX3_cell_28 2 rfl rfl ?_
            refine g_aload_n C dX3_cell_29 0 rfl rfl ?_
            refine g_get C 0 (f := 0) (v := .ref (g 0)) (Cn := RX3) (T := TX3) (N := 5) dX3_cell_30 rfl rfl iX3_cell_X3 (by decide) mX3_cell_f17 rfl ?_
            refine g_iload_n C dX3_cell_33 1 rfl rfl ?_
            refine g_callIV C [1, 2, 3, 4, 5, 6, 7, 8] [0, 9, 10, 11, 12, 13, 14, 15, 16, 17, 18, 19, 20, 21, 22, 23, 24] [0, 17, 18, 19, 20, 21, 22, 23, 24, 1, 2, 3, 4, 5, 6, 7, 8, 9, 10, 11, 12, 13, 14, 15, 16] 0 2 (b := g 0) rfl rfl (As := [.int (nI q)]) (rest := [.int (nI ii)]) (wr := (wB b (g 0) (h 0) (j 0) B ++ (wG cy h (z 0) O ++ (wJ cy j J ++ (wZ cy z Z))))) (wf := fun _ => (wB b (g 0) (h 0) (j 0) B ++ (wG cy g (z 0) P ++ (wG cy h (z 0) O ++ (wJ cy j J ++ (wZ cy z Z)))))) dX3_cell_34 gX3_cell_X2_entriesOnPage rfl dmX2_entriesOnPage ⟨rfl, rfl, Nat.le_of_ble_eq_true rfl, Nat.le_of_ble_eq_true rfl, Nat.zero_le _, Nat.zero_le _⟩ (c_X2_entriesOnPage l D cy cz g (z 0) P q hq) ⟨rfl, rfl, rfl, rfl, by decide, rfl, fun _ => rfl⟩ (Nat.le_of_ble_eq_true rfl) ?_
            rintro _ - rfl
            show G x l (rmF 2 72) D 5 0 0 (wB b (g 0) (h 0) (j 0) B ++ (wG cy g (z 0) P ++ (wG cy h (z 0) O ++ (wJ cy j J ++ (wZ cy z Z))))) [(0, .ref (b 0)), (1, .int (nI q)), (2, .int (nI ii)), (3, .int (nI kk))] [.int (P 3 q), .int (nI ii)] 37
            refine g_top (b := nI (T.A.sz q)) (hx.1.1.used hq) ?_
            refine g_icmp_lt C (tgt := 43) dX3_cell_37 (by decide) (fun c6 => ?_) (fun c6 => ?_)
            · skip
              have hz := hx.1.1.sz4 hq
              have h6 : ii < T.A.sz q := (nI_ltI (by omega) (by omega)).mp c6
              refine g_iload_n C dX3_cell_43 1 rfl rfl ?_
              refine g_iconst C (v := 4) dX3_cell_44 (by decide) ?_
              refine g_imul C dX3_cell_45 ?_
              refine g_top (b := nI (q * 4)) (pk_mul q 4) ?_
              refine g_iload_n C dX3_cell_46 2 rfl rfl ?_
              refine g_iadd C dX3_cell_47 ?_
              refine g_top (b := nI (q * 4 + ii)) (nI_add _ _) ?_
              refine g_istore C (lv' := [(4, .int (nI (q * 4 + ii))), (0, .ref (b 0)), (1, .int (nI q)), (2, .int (nI ii)), (3, .int (nI kk))]) dX3_cell_48 (by decide) rfl ?_
              refine g_iload_n C dX3_cell_50 4 rfl rfl ?_
              refine g_if_ne C (tgt := 66) dX3_cell_51 (by decide) (fun c7 => ?_) (fun c7 => ?_)
              · skip
                have h7 : ¬ kk = 0 := fun w => c7 (by rw [w]; rfl)
                refine g_aload_n C dX3_cell_66 1 rfl rfl ?_
                refine g_get C 0 (f := 0) (v := .ref (g 0)) (Cn := RX3) (T := TX3) (N := 5) dX3_cell_67 rfl rfl iX3_cell_X3 (by decide) mX3_cell_f17 rfl ?_
                refine g_iload C dX3_cell_70 0 rfl ?_
                refine g_callIV C [1, 2, 3, 4, 5, 6, 7, 8] [0, 9, 10, 11, 12, 13, 14, 15, 16, 17, 18, 19, 20, 21, 22, 23, 24] [0, 17, 18, 19, 20, 21, 22, 23, 24, 1, 2, 3, 4, 5, 6, 7, 8, 9, 10, 11, 12, 13, 14, 15, 16] 0 2 (b := g 0) rfl rfl (As := [.int (nI (q * 4 + ii))]) (rest := []) (wr := (wB b (g 0) (h 0) (j 0) B ++ (wG cy h (z 0) O ++ (wJ cy j J ++ (wZ cy z Z))))) (wf := fun _ => (wB b (g 0) (h 0) (j 0) B ++ (wG cy g (z 0) P ++ (wG cy h (z 0) O ++ (wJ cy j J ++ (wZ cy z Z)))))) dX3_cell_72 gX3_cell_X2_valueIn rfl dmX2_valueIn ⟨rfl, rfl, Nat.le_of_ble_eq_true rfl, Nat.le_of_ble_eq_true rfl, Nat.zero_le _, Nat.zero_le _⟩ (c_X2_valueIn l D cy cz g (z 0) P (q * 4 + ii) (by omega)) ⟨rfl, rfl, rfl, rfl, by decide, rfl, fun _ => rfl⟩ (Nat.le_of_ble_eq_true rfl) ?_
                rintro _ - rfl
                show G x l (rmF 2 72) D 5 0 0 (wB b (g 0) (h 0) (j 0) B ++ (wG cy g (z 0) P ++ (wG cy h (z 0) O ++ (wJ cy j J ++ (wZ cy z Z))))) [(4, .int (nI (q * 4 + ii))), (0, .ref (b 0)), (1, .int (nI q)), (2, .int (nI ii)), (3, .int (nI kk))] [.int (P 2 (q * 4 + ii))] 75
                refine g_top (b := T.A.vs (q * 4 + ii)) (hx.1.1.val hq h6) ?_
                exact ret _ (B, P, O, J, Z) _ _ dX3_cell_75 (⟨by rw [aCell_in hq hii (by omega), if_pos h6, if_neg h7], hx⟩)
              · skip
                have h7 : kk = 0 := (nI_eq (b := 0) (by omega) (by decide)).mp c7
                refine g_aload_n C dX3_cell_54 1 rfl rfl ?_
                refine g_get C 0 (f := 0) (v := .ref (g 0)) (Cn := RX3) (T := TX3) (N := 5) dX3_cell_55 rfl rfl iX3_cell_X3 (by decide) mX3_cell_f17 rfl ?_
                refine g_iload C dX3_cell_58 0 rfl ?_
                refine g_callIV C [1, 2, 3, 4, 5, 6, 7, 8] [0, 9, 10, 11, 12, 13, 14, 15, 16, 17, 18, 19, 20, 21, 22, 23, 24] [0, 17, 18, 19, 20, 21, 22, 23, 24, 1, 2, 3, 4, 5, 6, 7, 8, 9, 10, 11, 12, 13, 14, 15, 16] 0 2 (b := g 0) rfl rfl (As := [.int (nI (q * 4 + ii))]) (rest := []) (wr := (wB b (g 0) (h 0) (j 0) B ++ (wG cy h (z 0) O ++ (wJ cy j J ++ (wZ cy z Z))))) (wf := fun _ => (wB b (g 0) (h 0) (j 0) B ++ (wG cy g (z 0) P ++ (wG cy h (z 0) O ++ (wJ cy j J ++ (wZ cy z Z)))))) dX3_cell_60 gX3_cell_X2_keyIn rfl dmX2_keyIn ⟨rfl, rfl, Nat.le_of_ble_eq_true rfl, Nat.le_of_ble_eq_true rfl, Nat.zero_le _, Nat.zero_le _⟩ (c_X2_keyIn l D cy cz g (z 0) P (q * 4 + ii) (by omega)) ⟨rfl, rfl, rfl, rfl, by decide, rfl, fun _ => rfl⟩ (Nat.le_of_ble_eq_true rfl) ?_
                rintro _ - rfl
                show G x l (rmF 2 72) D 5 0 0 (wB b (g 0) (h 0) (j 0) B ++ (wG cy g (z 0) P ++ (wG cy h (z 0) O ++ (wJ cy j J ++ (wZ cy z Z))))) [(4, .int (nI (q * 4 + ii))), (0, .ref (b 0)), (1, .int (nI q)), (2, .int (nI ii)), (3, .int (nI kk))] [.int (P 1 (q * 4 + ii))] 63
                refine g_top (b := T.A.ks (q * 4 + ii)) (hx.1.1.key hq h6) ?_
                refine g_goto C (tgt := 75) dX3_cell_63 (by decide) ?_
                exact ret _ (B, P, O, J, Z) _ _ dX3_cell_75 (⟨by rw [aCell_in hq hii (by omega), if_pos h6, if_pos h7], hx⟩)
            · skip
              have hz := hx.1.1.sz4 hq
              have h6 : ¬ ii < T.A.sz q := fun w => c6 (nI_lt w (by omega))
              refine g_ldc C (v := (-2000000002)) mX3_cell_k66 dX3_cell_40 ?_
              exact ret _ (B, P, O, J, Z) _ _ dX3_cell_42 (⟨by rw [aCell_in hq hii (by omega), if_neg h6], hx⟩)
          · skip
            refine g_ldc C (v := (-2000000001)) mX3_cell_k32 dX3_cell_25 ?_
            exact ret _ (B, P, O, J, Z) _ _ dX3_cell_27 (⟨(aCell_bad (Or.inr (Or.inr (Or.inr (Or.inr (Int32.not_le.mp c5)))))).symm, hx⟩)

theorem mX3_entry_f17 : Cond.fieldLink RX3 17 (TX3 0).1 (TX3 0).2.1 (TX3 0).2.2.1 ∈ wsX3_entry := List.mem_of_getElem? (i := 2) rfl
theorem iX3_entry_X3 : ∀ w ∈ wsX30, w ∈ wsX3_entry := by decide +kernel
theorem mX3_entry_k37 : Cond.constant RX3 37 (-2000000005) ∈ wsX3_entry := List.mem_of_getElem? (i := 3) rfl
theorem mX3_entry_k32 : Cond.constant RX3 32 (-2000000001) ∈ wsX3_entry := List.mem_of_getElem? (i := 1) rfl
set_option maxHeartbeats 1600000 in
set_option maxRecDepth 20000 in
theorem c_X3_entry (l : Launch) (D : va_G) (cy cz : ClassId) (b : Nat → Nat) (g : Nat → Nat) (h : Nat → Nat) (j : Nat → Nat) (z : Nat → Nat) (B : Mem) (P : Mem) (O : Mem) (J : Mem) (Z : Mem) (T : TS) (i : Int32) (hx : RX T (B, P, O, J, Z)) : MI l yX3_entry wsX3_entry (rmF 2 72) D (tyL cy cz) [.ref (b 0), .int i] (wB b (g 0) (h 0) (j 0) B ++ (wG cy g (z 0) P ++ (wG cy h (z 0) O ++ (wJ cy j J ++ (wZ cy z Z))))) (fun (r : Int32) (u : M5) => r = aEntry T.A i ∧ RX T u) (fun u => (wB b (g 0) (h 0) (j 0) u.1 ++ (wG cy g (z 0) u.2.1 ++ (wG cy h (z 0) u.2.2.1 ++ (wJ cy j u.2.2.2.1 ++ (wZ cy z u.2.2.2.2)))))) := by
  refine g_entI (cc := cX3_entry) (maxL := 3) (own := RX3) (by decide) rfl rfl (Nat.le_of_ble_eq_true rfl) (fun x C ret => ?_)
  show G x l (rmF 2 72) D 3 0 0 (wB b (g 0) (h 0) (j 0) B ++ (wG cy g (z 0) P ++ (wG cy h (z 0) O ++ (wJ cy j J ++ (wZ cy z Z))))) [(0, .ref (b 0)), (1, .int i)] [] 0
  refine g_iload_n C dX3_entry_0 1 rfl rfl ?_
  refine g_if_ge C (tgt := 7) dX3_entry_1 (by decide) (fun c1 => ?_) (fun c1 => ?_)
  · skip
    obtain ⟨kk, hkk, rfl⟩ := nI_of (x := i) (Int32.not_lt.mpr c1)
    show G x l (rmF 2 72) D 3 0 0 (wB b (g 0) (h 0) (j 0) B ++ (wG cy g (z 0) P ++ (wG cy h (z 0) O ++ (wJ cy j J ++ (wZ cy z Z))))) [(0, .ref (b 0)), (1, .int (nI kk))] [] 7
    refine g_aload_n C dX3_entry_7 0 rfl rfl ?_
    refine g_get C 0 (f := 0) (v := .ref (g 0)) (Cn := RX3) (T := TX3) (N := 5) dX3_entry_8 rfl rfl iX3_entry_X3 (by decide) mX3_entry_f17 rfl ?_
    refine g_iload_n C dX3_entry_11 1 rfl rfl ?_
    refine g_callIV C [1, 2, 3, 4, 5, 6, 7, 8] [0, 9, 10, 11, 12, 13, 14, 15, 16, 17, 18, 19, 20, 21, 22, 23, 24] [0, 17, 18, 19, 20, 21, 22, 23, 24, 1, 2, 3, 4, 5, 6, 7, 8, 9, 10, 11, 12, 13, 14, 15, 16] 0 2 (b := g 0) rfl rfl (As := [.int (nI kk)]) (rest := []) (wr := (wB b (g 0) (h 0) (j 0) B ++ (wG cy h (z 0) O ++ (wJ cy j J ++ (wZ cy z Z))))) (wf := fun _ => (wB b (g 0) (h 0) (j 0) B ++ (wG cy g (z 0) P ++ (wG cy h (z 0) O ++ (wJ cy j J ++ (wZ cy z Z)))))) dX3_entry_12 gX3_entry_X2_cellOfEntry rfl dmX2_cellOfEntry ⟨rfl, rfl, Nat.le_of_ble_eq_true rfl, Nat.le_of_ble_eq_true rfl, Nat.zero_le _, Nat.zero_le _⟩ (c_X2_cellOfEntry l D cy cz g (z 0) P T.A kk hx.1 hkk) ⟨rfl, rfl, rfl, rfl, by decide, rfl, fun _ => rfl⟩ (Nat.le_of_ble_eq_true rfl) ?_
    rintro _ - rfl
    show G x l (rmF 2 72) D 3 0 0 (wB b (g 0) (h 0) (j 0) B ++ (wG cy g (z 0) P ++ (wG cy h (z 0) O ++ (wJ cy j J ++ (wZ cy z Z))))) [(0, .ref (b 0)), (1, .int (nI kk))] [.int (ocI (T.A.ent kk))] 15
    rcases hf : T.A.ent kk with _ | c
    · skip
      show G x l (rmF 2 72) D 3 0 0 (wB b (g 0) (h 0) (j 0) B ++ (wG cy g (z 0) P ++ (wG cy h (z 0) O ++ (wJ cy j J ++ (wZ cy z Z))))) [(0, .ref (b 0)), (1, .int (nI kk))] [.int vNONE] 15
      refine g_istore_n C (lv' := [(2, .int vNONE), (0, .ref (b 0)), (1, .int (nI kk))]) dX3_entry_15 rfl (by decide) rfl ?_
      refine g_iload_n C dX3_entry_16 0 rfl rfl ?_
      refine g_ldc C (v := vNONE) mX3_entry_k37 dX3_entry_17 ?_
      refine g_icmp_ne C (tgt := 27) dX3_entry_19 (by decide) (fun c3 => ?_) (fun c3 => ?_)
      · skip
        exact absurd rfl (c3)
      · skip
        refine g_ldc C (v := vNONE) mX3_entry_k37 dX3_entry_22 ?_
        refine g_goto C (tgt := 35) dX3_entry_24 (by decide) ?_
        exact ret _ (B, P, O, J, Z) _ _ dX3_entry_35 (⟨by rw [aEntry_in hkk, hf], hx⟩)
    · skip
      have hc5 := hx.valE hf
      show G x l (rmF 2 72) D 3 0 0 (wB b (g 0) (h 0) (j 0) B ++ (wG cy g (z 0) P ++ (wG cy h (z 0) O ++ (wJ cy j J ++ (wZ cy z Z))))) [(0, .ref (b 0)), (1, .int (nI kk))] [.int (nI c)] 15
      refine g_istore_n C (lv' := [(2, .int (nI c)), (0, .ref (b 0)), (1, .int (nI kk))]) dX3_entry_15 rfl (by decide) rfl ?_
      refine g_iload_n C dX3_entry_16 0 rfl rfl ?_
      refine g_ldc C (v := vNONE) mX3_entry_k37 dX3_entry_17 ?_
      refine g_icmp_ne C (tgt := 27) dX3_entry_19 (by decide) (fun c3 => ?_) (fun c3 => ?_)
      · skip
        refine g_aload_n C dX3_entry_27 1 rfl rfl ?_
        refine g_get C 0 (f := 0) (v := .ref (g 0)) (Cn := RX3) (T := TX3) (N := 5) dX3_entry_28 rfl rfl iX3_entry_X3 (by decide) mX3_entry_f17 rfl ?_
        refine g_iload_n C dX3_entry_31 0 rfl rfl ?_
        refine g_callIV C [1, 2, 3, 4, 5, 6, 7, 8] [0, 9, 10, 11, 12, 13, 14, 15, 16, 17, 18, 19, 20, 21, 22, 23, 24] [0, 17, 18, 19, 20, 21, 22, 23, 24, 1, 2, 3, 4, 5, 6, 7, 8, 9, 10, 11, 12, 13, 14, 15, 16] 0 2 (b := g 0) rfl rfl (As := [.int (nI c)]) (rest := []) (wr := (wB b (g 0) (h 0) (j 0) B ++ (wG cy h (z 0) O ++ (wJ cy j J ++ (wZ cy z Z))))) (wf := fun _ => (wB b (g 0) (h 0) (j 0) B ++ (wG cy g (z 0) P ++ (wG cy h (z 0) O ++ (wJ cy j J ++ (wZ cy z Z)))))) dX3_entry_32 gX3_entry_X2_valueIn rfl dmX2_valueIn ⟨rfl, rfl, Nat.le_of_ble_eq_true rfl, Nat.le_of_ble_eq_true rfl, Nat.zero_le _, Nat.zero_le _⟩ (c_X2_valueIn l D cy cz g (z 0) P c hc5.1) ⟨rfl, rfl, rfl, rfl, by decide, rfl, fun _ => rfl⟩ (Nat.le_of_ble_eq_true rfl) ?_
        rintro _ - rfl
        show G x l (rmF 2 72) D 3 0 0 (wB b (g 0) (h 0) (j 0) B ++ (wG cy g (z 0) P ++ (wG cy h (z 0) O ++ (wJ cy j J ++ (wZ cy z Z))))) [(2, .int (nI c)), (0, .ref (b 0)), (1, .int (nI kk))] [.int (P 2 c)] 35
        refine g_top (b := T.A.vs c) (hc5.2) ?_
        exact ret _ (B, P, O, J, Z) _ _ dX3_entry_35 (⟨by rw [aEntry_in hkk, hf], hx⟩)
      · skip
        exact absurd c3 (NONE_nI (by omega))
  · skip
    refine g_ldc C (v := (-2000000001)) mX3_entry_k32 dX3_entry_4 ?_
    exact ret _ (B, P, O, J, Z) _ _ dX3_entry_6 (⟨(aEntry_bad c1).symm, hx⟩)

theorem mX3_effort_f17 : Cond.fieldLink RX3 17 (TX3 0).1 (TX3 0).2.1 (TX3 0).2.2.1 ∈ wsX3_effort := List.mem_of_getElem? (i := 1) rfl
theorem iX3_effort_X3 : ∀ w ∈ wsX30, w ∈ wsX3_effort := by decide +kernel
set_option maxHeartbeats 1600000 in
set_option maxRecDepth 20000 in
theorem c_X3_effort (l : Launch) (D : va_G) (cy cz : ClassId) (b : Nat → Nat) (g : Nat → Nat) (h : Nat → Nat) (j : Nat → Nat) (z : Nat → Nat) (B : Mem) (P : Mem) (O : Mem) (J : Mem) (Z : Mem) (T : TS) (hx : RX T (B, P, O, J, Z)) : MI l yX3_effort wsX3_effort (rmF 2 72) D (tyL cy cz) [.ref (b 0)] (wB b (g 0) (h 0) (j 0) B ++ (wG cy g (z 0) P ++ (wG cy h (z 0) O ++ (wJ cy j J ++ (wZ cy z Z))))) (fun (r : Int32) (u : M5) => r = nI T.A.eff ∧ RX T u) (fun u => (wB b (g 0) (h 0) (j 0) u.1 ++ (wG cy g (z 0) u.2.1 ++ (wG cy h (z 0) u.2.2.1 ++ (wJ cy j u.2.2.2.1 ++ (wZ cy z u.2.2.2.2)))))) := by
  refine g_entI (cc := cX3_effort) (maxL := 1) (own := RX3) (by decide) rfl rfl (Nat.le_of_ble_eq_true rfl) (fun x C ret => ?_)
  show G x l (rmF 2 72) D 1 0 0 (wB b (g 0) (h 0) (j 0) B ++ (wG cy g (z 0) P ++ (wG cy h (z 0) O ++ (wJ cy j J ++ (wZ cy z Z))))) [(0, .ref (b 0))] [] 0
  refine g_aload_n C dX3_effort_0 0 rfl rfl ?_
  refine g_get C 0 (f := 0) (v := .ref (g 0)) (Cn := RX3) (T := TX3) (N := 5) dX3_effort_1 rfl rfl iX3_effort_X3 (by decide) mX3_effort_f17 rfl ?_
  refine g_callIV C [1, 2, 3, 4, 5, 6, 7, 8] [0, 9, 10, 11, 12, 13, 14, 15, 16, 17, 18, 19, 20, 21, 22, 23, 24] [0, 17, 18, 19, 20, 21, 22, 23, 24, 1, 2, 3, 4, 5, 6, 7, 8, 9, 10, 11, 12, 13, 14, 15, 16] 0 2 (b := g 0) rfl rfl (As := []) (rest := []) (wr := (wB b (g 0) (h 0) (j 0) B ++ (wG cy h (z 0) O ++ (wJ cy j J ++ (wZ cy z Z))))) (wf := fun _ => (wB b (g 0) (h 0) (j 0) B ++ (wG cy g (z 0) P ++ (wG cy h (z 0) O ++ (wJ cy j J ++ (wZ cy z Z)))))) dX3_effort_4 gX3_effort_X2_effortForAll rfl dmX2_effortForAll ⟨rfl, rfl, Nat.le_of_ble_eq_true rfl, Nat.le_of_ble_eq_true rfl, Nat.zero_le _, Nat.zero_le _⟩ (c_X2_effortForAll l D cy cz g (z 0) P T.A hx.1) ⟨rfl, rfl, rfl, rfl, by decide, rfl, fun _ => rfl⟩ (Nat.le_of_ble_eq_true rfl) ?_
  rintro _ - rfl
  show G x l (rmF 2 72) D 1 0 0 (wB b (g 0) (h 0) (j 0) B ++ (wG cy g (z 0) P ++ (wG cy h (z 0) O ++ (wJ cy j J ++ (wZ cy z Z))))) [(0, .ref (b 0))] [.int (nI T.A.eff)] 7
  exact ret _ (B, P, O, J, Z) _ _ dX3_effort_7 (⟨rfl, hx⟩)

theorem mX3_count_f17 : Cond.fieldLink RX3 17 (TX3 0).1 (TX3 0).2.1 (TX3 0).2.2.1 ∈ wsX3_count := List.mem_of_getElem? (i := 1) rfl
theorem iX3_count_X3 : ∀ w ∈ wsX30, w ∈ wsX3_count := by decide +kernel
theorem mX3_count_f27 : Cond.fieldLink RX3 27 (TX3 2).1 (TX3 2).2.1 (TX3 2).2.2.1 ∈ wsX3_count := List.mem_of_getElem? (i := 2) rfl
theorem mX3_count_f55 : Cond.fieldLink RX3 55 (TX3 3).1 (TX3 3).2.1 (TX3 3).2.2.1 ∈ wsX3_count := List.mem_of_getElem? (i := 3) rfl
theorem mX3_count_f144 : Cond.fieldLink RX3 144 (TX3 4).1 (TX3 4).2.1 (TX3 4).2.2.1 ∈ wsX3_count := List.mem_of_getElem? (i := 4) rfl
theorem mX3_count_k32 : Cond.constant RX3 32 (-2000000001) ∈ wsX3_count := List.mem_of_getElem? (i := 5) rfl
set_option maxHeartbeats 1600000 in
set_option maxRecDepth 20000 in
theorem c_X3_count (l : Launch) (D : va_G) (cy cz : ClassId) (b : Nat → Nat) (g : Nat → Nat) (h : Nat → Nat) (j : Nat → Nat) (z : Nat → Nat) (B : Mem) (P : Mem) (O : Mem) (J : Mem) (Z : Mem) (T : TS) (what : Int32) (hx : RX T (B, P, O, J, Z)) : MI l yX3_count wsX3_count (rmF 3 108) D (tyL cy cz) [.ref (b 0), .int what] (wB b (g 0) (h 0) (j 0) B ++ (wG cy g (z 0) P ++ (wG cy h (z 0) O ++ (wJ cy j J ++ (wZ cy z Z))))) (fun (r : Int32) (u : M5) => r = aCount T what ∧ RX T u) (fun u => (wB b (g 0) (h 0) (j 0) u.1 ++ (wG cy g (z 0) u.2.1 ++ (wG cy h (z 0) u.2.2.1 ++ (wJ cy j u.2.2.2.1 ++ (wZ cy z u.2.2.2.2)))))) := by
  refine g_entI (cc := cX3_count) (maxL := 2) (own := RX3) (by decide) rfl rfl (Nat.le_of_ble_eq_true rfl) (fun x C ret => ?_)
  show G x l (rmF 3 108) D 2 0 0 (wB b (g 0) (h 0) (j 0) B ++ (wG cy g (z 0) P ++ (wG cy h (z 0) O ++ (wJ cy j J ++ (wZ cy z Z))))) [(0, .ref (b 0)), (1, .int what)] [] 0
  refine g_iload_n C dX3_count_0 1 rfl rfl ?_
  by_cases hsw : 0 ≤ (what).toInt ∧ (what).toInt ≤ 10
  · skip
    obtain ⟨jw, hjw, rfl⟩ : ∃ jw : Nat, jw ≤ 10 ∧ what = nI jw := sw_of hsw (by decide)
    rcases sw_10 hjw with rfl | rfl | rfl | rfl | rfl | rfl | rfl | rfl | rfl | rfl | rfl
    · skip
      refine g_tabIn C (tgt := 60) dX3_count_1 (by decide) (by decide) (off := 59) rfl (by decide) ?_
      show G x l (rmF 3 108) D 2 0 0 (wB b (g 0) (h 0) (j 0) B ++ (wG cy g (z 0) P ++ (wG cy h (z 0) O ++ (wJ cy j J ++ (wZ cy z Z))))) [(0, .ref (b 0)), (1, .int (nI 0))] [] 60
      refine g_aload_n C dX3_count_60 0 rfl rfl ?_
      refine g_get C 0 (f := 0) (v := .ref (g 0)) (Cn := RX3) (T := TX3) (N := 5) dX3_count_61 rfl rfl iX3_count_X3 (by decide) mX3_count_f17 rfl ?_
      refine g_callIV C [1, 2, 3, 4, 5, 6, 7, 8] [0, 9, 10, 11, 12, 13, 14, 15, 16, 17, 18, 19, 20, 21, 22, 23, 24] [0, 17, 18, 19, 20, 21, 22, 23, 24, 1, 2, 3, 4, 5, 6, 7, 8, 9, 10, 11, 12, 13, 14, 15, 16] 0 2 (b := g 0) rfl rfl (As := []) (rest := []) (wr := (wB b (g 0) (h 0) (j 0) B ++ (wG cy h (z 0) O ++ (wJ cy j J ++ (wZ cy z Z))))) (wf := fun _ => (wB b (g 0) (h 0) (j 0) B ++ (wG cy g (z 0) P ++ (wG cy h (z 0) O ++ (wJ cy j J ++ (wZ cy z Z)))))) dX3_count_64 gX3_count_X2_entryCount rfl dmX2_entryCount ⟨rfl, rfl, Nat.le_of_ble_eq_true rfl, Nat.le_of_ble_eq_true rfl, Nat.zero_le _, Nat.zero_le _⟩ (c_X2_entryCount l D cy cz g (z 0) P) ⟨rfl, rfl, rfl, rfl, by decide, rfl, fun _ => rfl⟩ (Nat.le_of_ble_eq_true rfl) ?_
      rintro _ - rfl
      show G x l (rmF 3 108) D 2 0 0 (wB b (g 0) (h 0) (j 0) B ++ (wG cy g (z 0) P ++ (wG cy h (z 0) O ++ (wJ cy j J ++ (wZ cy z Z))))) [(0, .ref (b 0)), (1, .int (nI 0))] [.int (P 0 2)] 67
      refine g_top (b := T.E) (hx.2.1) ?_
      exact ret _ (B, P, O, J, Z) _ _ dX3_count_67 (⟨by rw [aCount_in (by decide)]; rfl, hx⟩)
    · skip
      refine g_tabIn C (tgt := 68) dX3_count_1 (by decide) (by decide) (off := 67) rfl (by decide) ?_
      show G x l (rmF 3 108) D 2 0 0 (wB b (g 0) (h 0) (j 0) B ++ (wG cy g (z 0) P ++ (wG cy h (z 0) O ++ (wJ cy j J ++ (wZ cy z Z))))) [(0, .ref (b 0)), (1, .int (nI 1))] [] 68
      refine g_aload_n C dX3_count_68 0 rfl rfl ?_
      refine g_get C 0 (f := 0) (v := .ref (g 0)) (Cn := RX3) (T := TX3) (N := 5) dX3_count_69 rfl rfl iX3_count_X3 (by decide) mX3_count_f17 rfl ?_
      refine g_callIV C [1, 2, 3, 4, 5, 6, 7, 8] [0, 9, 10, 11, 12, 13, 14, 15, 16, 17, 18, 19, 20, 21, 22, 23, 24] [0, 17, 18, 19, 20, 21, 22, 23, 24, 1, 2, 3, 4, 5, 6, 7, 8, 9, 10, 11, 12, 13, 14, 15, 16] 0 2 (b := g 0) rfl rfl (As := []) (rest := []) (wr := (wB b (g 0) (h 0) (j 0) B ++ (wG cy h (z 0) O ++ (wJ cy j J ++ (wZ cy z Z))))) (wf := fun _ => (wB b (g 0) (h 0) (j 0) B ++ (wG cy g (z 0) P ++ (wG cy h (z 0) O ++ (wJ cy j J ++ (wZ cy z Z)))))) dX3_count_72 gX3_count_X2_bucketCount rfl dmX2_bucketCount ⟨rfl, rfl, Nat.le_of_ble_eq_true rfl, Nat.le_of_ble_eq_true rfl, Nat.zero_le _, Nat.zero_le _⟩ (c_X2_bucketCount l D cy cz g (z 0) P) ⟨rfl, rfl, rfl, rfl, by decide, rfl, fun _ => rfl⟩ (Nat.le_of_ble_eq_true rfl) ?_
      rintro _ - rfl
      show G x l (rmF 3 108) D 2 0 0 (wB b (g 0) (h 0) (j 0) B ++ (wG cy g (z 0) P ++ (wG cy h (z 0) O ++ (wJ cy j J ++ (wZ cy z Z))))) [(0, .ref (b 0)), (1, .int (nI 1))] [.int ((4 <<< (P 0 0 &&& 31)) + P 0 1)] 75
      refine g_top (b := nI T.A.nb) (hx.1.nb) ?_
      exact ret _ (B, P, O, J, Z) _ _ dX3_count_75 (⟨by rw [aCount_in (by decide)]; rfl, hx⟩)
    · skip
      refine g_tabIn C (tgt := 76) dX3_count_1 (by decide) (by decide) (off := 75) rfl (by decide) ?_
      show G x l (rmF 3 108) D 2 0 0 (wB b (g 0) (h 0) (j 0) B ++ (wG cy g (z 0) P ++ (wG cy h (z 0) O ++ (wJ cy j J ++ (wZ cy z Z))))) [(0, .ref (b 0)), (1, .int (nI 2))] [] 76
      refine g_aload_n C dX3_count_76 0 rfl rfl ?_
      refine g_get C 0 (f := 0) (v := .ref (g 0)) (Cn := RX3) (T := TX3) (N := 5) dX3_count_77 rfl rfl iX3_count_X3 (by decide) mX3_count_f17 rfl ?_
      refine g_callIV C [1, 2, 3, 4, 5, 6, 7, 8] [0, 9, 10, 11, 12, 13, 14, 15, 16, 17, 18, 19, 20, 21, 22, 23, 24] [0, 17, 18, 19, 20, 21, 22, 23, 24, 1, 2, 3, 4, 5, 6, 7, 8, 9, 10, 11, 12, 13, 14, 15, 16] 0 2 (b := g 0) rfl rfl (As := []) (rest := []) (wr := (wB b (g 0) (h 0) (j 0) B ++ (wG cy h (z 0) O ++ (wJ cy j J ++ (wZ cy z Z))))) (wf := fun _ => (wB b (g 0) (h 0) (j 0) B ++ (wG cy g (z 0) P ++ (wG cy h (z 0) O ++ (wJ cy j J ++ (wZ cy z Z)))))) dX3_count_80 gX3_count_X2_levelNumber rfl dmX2_levelNumber ⟨rfl, rfl, Nat.le_of_ble_eq_true rfl, Nat.le_of_ble_eq_true rfl, Nat.zero_le _, Nat.zero_le _⟩ (c_X2_levelNumber l D cy cz g (z 0) P) ⟨rfl, rfl, rfl, rfl, by decide, rfl, fun _ => rfl⟩ (Nat.le_of_ble_eq_true rfl) ?_
      rintro _ - rfl
      show G x l (rmF 3 108) D 2 0 0 (wB b (g 0) (h 0) (j 0) B ++ (wG cy g (z 0) P ++ (wG cy h (z 0) O ++ (wJ cy j J ++ (wZ cy z Z))))) [(0, .ref (b 0)), (1, .int (nI 2))] [.int (P 0 0)] 83
      refine g_top (b := nI T.A.L) (hx.1.2.2.1) ?_
      exact ret _ (B, P, O, J, Z) _ _ dX3_count_83 (⟨by rw [aCount_in (by decide)]; rfl, hx⟩)
    · skip
      refine g_tabIn C (tgt := 84) dX3_count_1 (by decide) (by decide) (off := 83) rfl (by decide) ?_
      show G x l (rmF 3 108) D 2 0 0 (wB b (g 0) (h 0) (j 0) B ++ (wG cy g (z 0) P ++ (wG cy h (z 0) O ++ (wJ cy j J ++ (wZ cy z Z))))) [(0, .ref (b 0)), (1, .int (nI 3))] [] 84
      refine g_aload_n C dX3_count_84 0 rfl rfl ?_
      refine g_get C 0 (f := 0) (v := .ref (g 0)) (Cn := RX3) (T := TX3) (N := 5) dX3_count_85 rfl rfl iX3_count_X3 (by decide) mX3_count_f17 rfl ?_
      refine g_callIV C [1, 2, 3, 4, 5, 6, 7, 8] [0, 9, 10, 11, 12, 13, 14, 15, 16, 17, 18, 19, 20, 21, 22, 23, 24] [0, 17, 18, 19, 20, 21, 22, 23, 24, 1, 2, 3, 4, 5, 6, 7, 8, 9, 10, 11, 12, 13, 14, 15, 16] 0 2 (b := g 0) rfl rfl (As := []) (rest := []) (wr := (wB b (g 0) (h 0) (j 0) B ++ (wG cy h (z 0) O ++ (wJ cy j J ++ (wZ cy z Z))))) (wf := fun _ => (wB b (g 0) (h 0) (j 0) B ++ (wG cy g (z 0) P ++ (wG cy h (z 0) O ++ (wJ cy j J ++ (wZ cy z Z)))))) dX3_count_88 gX3_count_X2_splitNumber rfl dmX2_splitNumber ⟨rfl, rfl, Nat.le_of_ble_eq_true rfl, Nat.le_of_ble_eq_true rfl, Nat.zero_le _, Nat.zero_le _⟩ (c_X2_splitNumber l D cy cz g (z 0) P) ⟨rfl, rfl, rfl, rfl, by decide, rfl, fun _ => rfl⟩ (Nat.le_of_ble_eq_true rfl) ?_
      rintro _ - rfl
      show G x l (rmF 3 108) D 2 0 0 (wB b (g 0) (h 0) (j 0) B ++ (wG cy g (z 0) P ++ (wG cy h (z 0) O ++ (wJ cy j J ++ (wZ cy z Z))))) [(0, .ref (b 0)), (1, .int (nI 3))] [.int (P 0 1)] 91
      refine g_top (b := nI T.A.S) (hx.1.2.2.2) ?_
      exact ret _ (B, P, O, J, Z) _ _ dX3_count_91 (⟨by rw [aCount_in (by decide)]; rfl, hx⟩)
    · skip
      refine g_tabIn C (tgt := 92) dX3_count_1 (by decide) (by decide) (off := 91) rfl (by decide) ?_
      show G x l (rmF 3 108) D 2 0 0 (wB b (g 0) (h 0) (j 0) B ++ (wG cy g (z 0) P ++ (wG cy h (z 0) O ++ (wJ cy j J ++ (wZ cy z Z))))) [(0, .ref (b 0)), (1, .int (nI 4))] [] 92
      refine g_aload_n C dX3_count_92 0 rfl rfl ?_
      refine g_get C 0 (f := 0) (v := .ref (g 0)) (Cn := RX3) (T := TX3) (N := 5) dX3_count_93 rfl rfl iX3_count_X3 (by decide) mX3_count_f17 rfl ?_
      refine g_callIV C [1, 2, 3, 4, 5, 6, 7, 8] [0, 9, 10, 11, 12, 13, 14, 15, 16, 17, 18, 19, 20, 21, 22, 23, 24] [0, 17, 18, 19, 20, 21, 22, 23, 24, 1, 2, 3, 4, 5, 6, 7, 8, 9, 10, 11, 12, 13, 14, 15, 16] 0 2 (b := g 0) rfl rfl (As := []) (rest := []) (wr := (wB b (g 0) (h 0) (j 0) B ++ (wG cy h (z 0) O ++ (wJ cy j J ++ (wZ cy z Z))))) (wf := fun _ => (wB b (g 0) (h 0) (j 0) B ++ (wG cy g (z 0) P ++ (wG cy h (z 0) O ++ (wJ cy j J ++ (wZ cy z Z)))))) dX3_count_96 gX3_count_X2_freePages rfl dmX2_freePages ⟨rfl, rfl, Nat.le_of_ble_eq_true rfl, Nat.le_of_ble_eq_true rfl, Nat.zero_le _, Nat.zero_le _⟩ (c_X2_freePages l D cy cz g (z 0) P T.A hx.1.1) ⟨rfl, rfl, rfl, rfl, by decide, rfl, fun _ => rfl⟩ (Nat.le_of_ble_eq_true rfl) ?_
      rintro _ - rfl
      show G x l (rmF 3 108) D 2 0 0 (wB b (g 0) (h 0) (j 0) B ++ (wG cy g (z 0) P ++ (wG cy h (z 0) O ++ (wJ cy j J ++ (wZ cy z Z))))) [(0, .ref (b 0)), (1, .int (nI 4))] [.int (nI T.A.fc)] 99
      exact ret _ (B, P, O, J, Z) _ _ dX3_count_99 (⟨by rw [aCount_in (by decide)]; rfl, hx⟩)
    · skip
      refine g_tabIn C (tgt := 100) dX3_count_1 (by decide) (by decide) (off := 99) rfl (by decide) ?_
      show G x l (rmF 3 108) D 2 0 0 (wB b (g 0) (h 0) (j 0) B ++ (wG cy g (z 0) P ++ (wG cy h (z 0) O ++ (wJ cy j J ++ (wZ cy z Z))))) [(0, .ref (b 0)), (1, .int (nI 5))] [] 100
      refine g_aload_n C dX3_count_100 0 rfl rfl ?_
      refine g_get C 0 (f := 2) (v := .ref (j 0)) (Cn := RX3) (T := TX3) (N := 5) dX3_count_101 rfl rfl iX3_count_X3 (by decide) mX3_count_f27 rfl ?_
      refine g_callIV C [17, 18, 19, 20, 21] [0, 1, 2, 3, 4, 5, 6, 7, 8, 9, 10, 11, 12, 13, 14, 15, 16, 22, 23, 24] [0, 1, 2, 3, 4, 5, 6, 7, 8, 9, 10, 11, 12, 13, 14, 15, 16, 20, 21, 22, 23, 24, 17, 18, 19] 0 1 (b := j 0) rfl rfl (As := []) (rest := []) (wr := (wB b (g 0) (h 0) (j 0) B ++ (wG cy g (z 0) P ++ (wG cy h (z 0) O ++ (wZ cy z Z))))) (wf := fun _ => (wB b (g 0) (h 0) (j 0) B ++ (wG cy g (z 0) P ++ (wG cy h (z 0) O ++ (wJ cy j J ++ (wZ cy z Z)))))) dX3_count_104 gX3_count_X1_writeCount rfl dmX1_writeCount ⟨rfl, rfl, Nat.le_of_ble_eq_true rfl, Nat.le_of_ble_eq_true rfl, Nat.zero_le _, Nat.zero_le _⟩ (c_X1_writeCount l D cy cz j J) ⟨rfl, rfl, rfl, rfl, by decide, rfl, fun _ => rfl⟩ (Nat.le_of_ble_eq_true rfl) ?_
      rintro _ - rfl
      show G x l (rmF 3 108) D 2 0 0 (wB b (g 0) (h 0) (j 0) B ++ (wG cy g (z 0) P ++ (wG cy h (z 0) O ++ (wJ cy j J ++ (wZ cy z Z))))) [(0, .ref (b 0)), (1, .int (nI 5))] [.int (J 0 0)] 107
      refine g_top (b := nI T.w.length) (hx.2.2.2.2.1.1) ?_
      exact ret _ (B, P, O, J, Z) _ _ dX3_count_107 (⟨by rw [aCount_in (by decide)]; rfl, hx⟩)
    · skip
      refine g_tabIn C (tgt := 108) dX3_count_1 (by decide) (by decide) (off := 107) rfl (by decide) ?_
      show G x l (rmF 3 108) D 2 0 0 (wB b (g 0) (h 0) (j 0) B ++ (wG cy g (z 0) P ++ (wG cy h (z 0) O ++ (wJ cy j J ++ (wZ cy z Z))))) [(0, .ref (b 0)), (1, .int (nI 6))] [] 108
      refine g_aload_n C dX3_count_108 0 rfl rfl ?_
      refine g_get C 0 (f := 2) (v := .ref (j 0)) (Cn := RX3) (T := TX3) (N := 5) dX3_count_109 rfl rfl iX3_count_X3 (by decide) mX3_count_f27 rfl ?_
      refine g_callIV C [17, 18, 19, 20, 21] [0, 1, 2, 3, 4, 5, 6, 7, 8, 9, 10, 11, 12, 13, 14, 15, 16, 22, 23, 24] [0, 1, 2, 3, 4, 5, 6, 7, 8, 9, 10, 11, 12, 13, 14, 15, 16, 20, 21, 22, 23, 24, 17, 18, 19] 0 1 (b := j 0) rfl rfl (As := []) (rest := []) (wr := (wB b (g 0) (h 0) (j 0) B ++ (wG cy g (z 0) P ++ (wG cy h (z 0) O ++ (wZ cy z Z))))) (wf := fun _ => (wB b (g 0) (h 0) (j 0) B ++ (wG cy g (z 0) P ++ (wG cy h (z 0) O ++ (wJ cy j J ++ (wZ cy z Z)))))) dX3_count_112 gX3_count_X1_groupCount rfl dmX1_groupCount ⟨rfl, rfl, Nat.le_of_ble_eq_true rfl, Nat.le_of_ble_eq_true rfl, Nat.zero_le _, Nat.zero_le _⟩ (c_X1_groupCount l D cy cz j J) ⟨rfl, rfl, rfl, rfl, by decide, rfl, fun _ => rfl⟩ (Nat.le_of_ble_eq_true rfl) ?_
      rintro _ - rfl
      show G x l (rmF 3 108) D 2 0 0 (wB b (g 0) (h 0) (j 0) B ++ (wG cy g (z 0) P ++ (wG cy h (z 0) O ++ (wJ cy j J ++ (wZ cy z Z))))) [(0, .ref (b 0)), (1, .int (nI 6))] [.int (J 0 1)] 115
      refine g_top (b := nI T.gs.length) (hx.2.2.2.2.1.2.2.2.2.1) ?_
      exact ret _ (B, P, O, J, Z) _ _ dX3_count_115 (⟨by rw [aCount_in (by decide)]; rfl, hx⟩)
    · skip
      refine g_tabIn C (tgt := 116) dX3_count_1 (by decide) (by decide) (off := 115) rfl (by decide) ?_
      show G x l (rmF 3 108) D 2 0 0 (wB b (g 0) (h 0) (j 0) B ++ (wG cy g (z 0) P ++ (wG cy h (z 0) O ++ (wJ cy j J ++ (wZ cy z Z))))) [(0, .ref (b 0)), (1, .int (nI 7))] [] 116
      refine g_aload_n C dX3_count_116 0 rfl rfl ?_
      refine g_get C 0 (f := 2) (v := .ref (j 0)) (Cn := RX3) (T := TX3) (N := 5) dX3_count_117 rfl rfl iX3_count_X3 (by decide) mX3_count_f27 rfl ?_
      refine g_callIV C [17, 18, 19, 20, 21] [0, 1, 2, 3, 4, 5, 6, 7, 8, 9, 10, 11, 12, 13, 14, 15, 16, 22, 23, 24] [0, 1, 2, 3, 4, 5, 6, 7, 8, 9, 10, 11, 12, 13, 14, 15, 16, 20, 21, 22, 23, 24, 17, 18, 19] 0 1 (b := j 0) rfl rfl (As := []) (rest := []) (wr := (wB b (g 0) (h 0) (j 0) B ++ (wG cy g (z 0) P ++ (wG cy h (z 0) O ++ (wZ cy z Z))))) (wf := fun _ => (wB b (g 0) (h 0) (j 0) B ++ (wG cy g (z 0) P ++ (wG cy h (z 0) O ++ (wJ cy j J ++ (wZ cy z Z)))))) dX3_count_120 gX3_count_X1_isOpen rfl dmX1_isOpen ⟨rfl, rfl, Nat.le_of_ble_eq_true rfl, Nat.le_of_ble_eq_true rfl, Nat.zero_le _, Nat.zero_le _⟩ (c_X1_isOpen l D cy cz j J hx.2.2.2.2.1.bool) ⟨rfl, rfl, rfl, rfl, by decide, rfl, fun _ => rfl⟩ (Nat.le_of_ble_eq_true rfl) ?_
      rintro _ - rfl
      show G x l (rmF 3 108) D 2 0 0 (wB b (g 0) (h 0) (j 0) B ++ (wG cy g (z 0) P ++ (wG cy h (z 0) O ++ (wJ cy j J ++ (wZ cy z Z))))) [(0, .ref (b 0)), (1, .int (nI 7))] [.int (J 0 2)] 123
      refine g_if_eq C (tgt := 130) dX3_count_123 (by decide) (fun c9 => ?_) (fun c9 => ?_)
      · skip
        refine g_iconst C (v := 0) dX3_count_130 (by decide) ?_
        exact ret _ (B, P, O, J, Z) _ _ dX3_count_131 (⟨by rw [aCount_in (by decide)]; exact (show J 0 2 = _ from hx.2.2.2.2.1.op).symm.trans c9 |>.symm, hx⟩)
      · skip
        refine g_iconst C (v := 1) dX3_count_126 (by decide) ?_
        refine g_goto C (tgt := 131) dX3_count_127 (by decide) ?_
        exact ret _ (B, P, O, J, Z) _ _ dX3_count_131 (⟨by rw [aCount_in (by decide)]; exact ((show J 0 2 = _ from hx.2.2.2.2.1.op).symm.trans (hx.2.2.2.2.1.bool.resolve_left c9)).symm, hx⟩)
    · skip
      refine g_tabIn C (tgt := 132) dX3_count_1 (by decide) (by decide) (off := 131) rfl (by decide) ?_
      show G x l (rmF 3 108) D 2 0 0 (wB b (g 0) (h 0) (j 0) B ++ (wG cy g (z 0) P ++ (wG cy h (z 0) O ++ (wJ cy j J ++ (wZ cy z Z))))) [(0, .ref (b 0)), (1, .int (nI 8))] [] 132
      refine g_aload_n C dX3_count_132 0 rfl rfl ?_
      refine g_get C 0 (f := 3) (v := .int (B 0 0)) (Cn := RX3) (T := TX3) (N := 5) dX3_count_133 rfl rfl iX3_count_X3 (by decide) mX3_count_f55 rfl ?_
      refine g_top (b := T.rd) (hx.2.2.2.2.2.1) ?_
      exact ret _ (B, P, O, J, Z) _ _ dX3_count_136 (⟨by rw [aCount_in (by decide)]; rfl, hx⟩)
    · skip
      refine g_tabIn C (tgt := 137) dX3_count_1 (by decide) (by decide) (off := 136) rfl (by decide) ?_
      show G x l (rmF 3 108) D 2 0 0 (wB b (g 0) (h 0) (j 0) B ++ (wG cy g (z 0) P ++ (wG cy h (z 0) O ++ (wJ cy j J ++ (wZ cy z Z))))) [(0, .ref (b 0)), (1, .int (nI 9))] [] 137
      refine g_aload_n C dX3_count_137 0 rfl rfl ?_
      refine g_get C 0 (f := 4) (v := .int (B 0 1)) (Cn := RX3) (T := TX3) (N := 5) dX3_count_138 rfl rfl iX3_count_X3 (by decide) mX3_count_f144 rfl ?_
      refine g_top (b := nI (T.kl.length + T.w.length)) (hx.2.2.2.2.2.2.1) ?_
      exact ret _ (B, P, O, J, Z) _ _ dX3_count_141 (⟨by rw [aCount_in (by decide)]; rfl, hx⟩)
    · skip
      refine g_tabIn C (tgt := 142) dX3_count_1 (by decide) (by decide) (off := 141) rfl (by decide) ?_
      show G x l (rmF 3 108) D 2 0 0 (wB b (g 0) (h 0) (j 0) B ++ (wG cy g (z 0) P ++ (wG cy h (z 0) O ++ (wJ cy j J ++ (wZ cy z Z))))) [(0, .ref (b 0)), (1, .int (nI 10))] [] 142
      refine g_aload_n C dX3_count_142 0 rfl rfl ?_
      refine g_get C 0 (f := 0) (v := .ref (g 0)) (Cn := RX3) (T := TX3) (N := 5) dX3_count_143 rfl rfl iX3_count_X3 (by decide) mX3_count_f17 rfl ?_
      refine g_callIV C [1, 2, 3, 4, 5, 6, 7, 8] [0, 9, 10, 11, 12, 13, 14, 15, 16, 17, 18, 19, 20, 21, 22, 23, 24] [0, 17, 18, 19, 20, 21, 22, 23, 24, 1, 2, 3, 4, 5, 6, 7, 8, 9, 10, 11, 12, 13, 14, 15, 16] 0 2 (b := g 0) rfl rfl (As := []) (rest := []) (wr := (wB b (g 0) (h 0) (j 0) B ++ (wG cy h (z 0) O ++ (wJ cy j J ++ (wZ cy z Z))))) (wf := fun _ => (wB b (g 0) (h 0) (j 0) B ++ (wG cy g (z 0) P ++ (wG cy h (z 0) O ++ (wJ cy j J ++ (wZ cy z Z)))))) dX3_count_146 gX3_count_X2_longestChain rfl dmX2_longestChain ⟨rfl, rfl, Nat.le_of_ble_eq_true rfl, Nat.le_of_ble_eq_true rfl, Nat.zero_le _, Nat.zero_le _⟩ (c_X2_longestChain l D cy cz g (z 0) P T.A hx.1) ⟨rfl, rfl, rfl, rfl, by decide, rfl, fun _ => rfl⟩ (Nat.le_of_ble_eq_true rfl) ?_
      rintro _ - rfl
      show G x l (rmF 3 108) D 2 0 0 (wB b (g 0) (h 0) (j 0) B ++ (wG cy g (z 0) P ++ (wG cy h (z 0) O ++ (wJ cy j J ++ (wZ cy z Z))))) [(0, .ref (b 0)), (1, .int (nI 10))] [.int (nI T.A.lng)] 149
      exact ret _ (B, P, O, J, Z) _ _ dX3_count_149 (⟨by rw [aCount_in (by decide)]; rfl, hx⟩)
  · skip
    refine g_tabOut C (tgt := 150) dX3_count_1 (by omega) (by decide) ?_
    refine g_ldc C (v := (-2000000001)) mX3_count_k32 dX3_count_150 ?_
    exact ret _ (B, P, O, J, Z) _ _ dX3_count_152 (⟨(aCount_sw hsw).symm, hx⟩)
