/-! made by wip/whole/gen.py and m1.py -/
theorem mX3_write_f17 : Cond.fieldLink RX3 17 (TX3 0).1 (TX3 0).2.1 (TX3 0).2.2.1 ∈ wsX3_write := List.mem_of_getElem? (i := 1) rfl
theorem iX3_write_X3 : ∀ w ∈ wsX30, w ∈ wsX3_write := by decide +kernel
theorem mX3_write_f27 : Cond.fieldLink RX3 27 (TX3 2).1 (TX3 2).2.1 (TX3 2).2.2.1 ∈ wsX3_write := List.mem_of_getElem? (i := 2) rfl
theorem mX3_write_f144 : Cond.fieldLink RX3 144 (TX3 4).1 (TX3 4).2.1 (TX3 4).2.2.1 ∈ wsX3_write := List.mem_of_getElem? (i := 3) rfl
set_option maxHeartbeats 1600000 in
set_option maxRecDepth 20000 in
theorem c_X3_write_put (l : Launch) (D : va_G) (cy cz : ClassId) (b : Nat → Nat) (g : Nat → Nat) (h : Nat → Nat) (j : Nat → Nat) (z : Nat → Nat) (B : Mem) (P : Mem) (J : Mem) (Z : Mem) (A : AS) (w : List LE) (gs : List Nat) (op : Option Nat) (k : Int32) (v : Int32) (hr : RP A P) (hm : A.fnd k = none → A.rm (A.ad k)) (hj : RJ J w gs op) (hl : w.length < 64) : MV l yX3_write wsX3_write (rmF 5 180) D (tyL cy cz) [.ref (b 0), .int 0, .int k, .int v] (wB b (g 0) (h 0) (j 0) B ++ (wG cy g (z 0) P ++ (wJ cy j J ++ (wZ cy z Z)))) (fun (u : Mem × Mem × Mem × Mem) => RP (A.put (P 0 2) k v).1 u.2.1 ∧ u.2.1 0 2 = (A.put (P 0 2) k v).2 ∧ RJ u.2.2.1 (w ++ [(k, some v)]) (gsN gs op) (op.map (· + 1)) ∧ u.1 0 0 = B 0 0 ∧ u.1 0 1 = B 0 1 + 1) (fun u => (wB b (g 0) (h 0) (j 0) u.1 ++ (wG cy g (z 0) u.2.1 ++ (wJ cy j u.2.2.1 ++ (wZ cy z u.2.2.2))))) := by
  refine g_entV (cc := cX3_write) (maxL := 4) (own := RX3) (by decide) rfl rfl (Nat.le_of_ble_eq_true rfl) (fun x C ret => ?_)
  show G x l (rmF 5 180) D 4 0 0 (wB b (g 0) (h 0) (j 0) B ++ (wG cy g (z 0) P ++ (wJ cy j J ++ (wZ cy z Z)))) [(0, .ref (b 0)), (1, .int 0), (2, .int k), (3, .int v)] [] 0
  refine g_aload_n C dX3_write_0 0 rfl rfl ?_
  refine g_get C 0 (f := 0) (v := .ref (g 0)) (Cn := RX3) (T := TX3) (N := 5) dX3_write_1 rfl rfl iX3_write_X3 (by decide) mX3_write_f17 rfl ?_
  refine g_iload_n C dX3_write_4 1 rfl rfl ?_
  refine g_iload_n C dX3_write_5 2 rfl rfl ?_
  refine g_iload_n C dX3_write_6 3 rfl rfl ?_
  refine g_callVV C [1, 2, 3, 4, 5, 6, 7, 8, 14, 15, 16] [0, 9, 10, 11, 12, 13] [0, 6, 7, 8, 9, 10, 11, 12, 13, 1, 2, 3, 4, 5, 14, 15, 16] 0 2 (b := g 0) rfl rfl (As := [.int 0, .int k, .int v]) (rest := []) (wr := (wB b (g 0) (h 0) (j 0) B ++ (wJ cy j J))) (wf := fun u1 => (wB b (g 0) (h 0) (j 0) B ++ (wG cy g (z 0) u1.1 ++ (wJ cy j J ++ (wZ cy z u1.2))))) dX3_write_7 gX3_write_X2_carryOut rfl dmX2_carryOut ⟨rfl, rfl, Nat.le_of_ble_eq_true rfl, Nat.le_of_ble_eq_true rfl, Nat.zero_le _, Nat.zero_le _⟩ (c_X2_carryOut_put l D cy cz g z P Z A k v hr hm) ⟨rfl, rfl, rfl, rfl, by decide, rfl, fun _ => rfl⟩ (Nat.le_of_ble_eq_true rfl) ?_
  intro u1 hp1
  show G x l (rmF 5 180) D 4 0 0 (wB b (g 0) (h 0) (j 0) B ++ (wG cy g (z 0) u1.1 ++ (wJ cy j J ++ (wZ cy z u1.2)))) [(0, .ref (b 0)), (1, .int 0), (2, .int k), (3, .int v)] [] 10
  refine g_aload_n C dX3_write_10 0 rfl rfl ?_
  refine g_get C 0 (f := 2) (v := .ref (j 0)) (Cn := RX3) (T := TX3) (N := 5) dX3_write_11 rfl rfl iX3_write_X3 (by decide) mX3_write_f27 rfl ?_
  refine g_iload_n C dX3_write_14 1 rfl rfl ?_
  refine g_iload_n C dX3_write_15 2 rfl rfl ?_
  refine g_iload_n C dX3_write_16 3 rfl rfl ?_
  refine g_callVV C [9, 10, 11, 12, 13] [0, 1, 2, 3, 4, 5, 6, 7, 8, 14, 15, 16] [0, 1, 2, 3, 4, 5, 6, 7, 8, 12, 13, 14, 15, 16, 9, 10, 11] 0 1 (b := j 0) rfl rfl (As := [.int 0, .int k, .int v]) (rest := []) (wr := (wB b (g 0) (h 0) (j 0) B ++ (wG cy g (z 0) u1.1 ++ (wZ cy z u1.2)))) (wf := fun J1 => (wB b (g 0) (h 0) (j 0) B ++ (wG cy g (z 0) u1.1 ++ (wJ cy j J1 ++ (wZ cy z u1.2))))) dX3_write_17 gX3_write_X1_note rfl dmX1_note ⟨rfl, rfl, Nat.le_of_ble_eq_true rfl, Nat.le_of_ble_eq_true rfl, Nat.zero_le _, Nat.zero_le _⟩ (c_X1_note l D cy cz j J w gs op 0 k v (some v) hj hl (⟨rfl, rfl⟩)) ⟨rfl, rfl, rfl, rfl, by decide, rfl, fun _ => rfl⟩ (Nat.le_of_ble_eq_true rfl) ?_
  intro J1 hp2
  show G x l (rmF 5 180) D 4 0 0 (wB b (g 0) (h 0) (j 0) B ++ (wG cy g (z 0) u1.1 ++ (wJ cy j J1 ++ (wZ cy z u1.2)))) [(0, .ref (b 0)), (1, .int 0), (2, .int k), (3, .int v)] [] 20
  refine g_aload_n C dX3_write_20 0 rfl rfl ?_
  refine g_dup C dX3_write_21 rfl ?_
  refine g_get C 0 (f := 4) (v := .int (B 0 1)) (Cn := RX3) (T := TX3) (N := 5) dX3_write_22 rfl rfl iX3_write_X3 (by decide) mX3_write_f144 rfl ?_
  refine g_iconst C (v := 1) dX3_write_25 (by decide) ?_
  refine g_iadd C dX3_write_26 ?_
  refine g_put C 0 (f := 4) (v := .int ((B 0 1) + 1)) (ty := .int) (Cn := RX3) (T := TX3) (N := 5) (ws' := (wB b (g 0) (h 0) (j 0) (ps B 0 1 ((B 0 1) + 1)) ++ (wG cy g (z 0) u1.1 ++ (wJ cy j J1 ++ (wZ cy z u1.2))))) dX3_write_27 rfl rfl iX3_write_X3 tyX3 tyX3_ok nmX3 (by decide) mX3_write_f144 rfl rfl (rfl) (rfl) (Nat.le_of_ble_eq_true rfl) (set_l (Nat.le_of_ble_eq_true rfl) (wB_s1 b (g 0) (h 0) (j 0) B ((B 0 1) + 1))) ?_
  exact ret ((ps B 0 1 ((B 0 1) + 1)), u1.1, J1, u1.2) _ _ dX3_write_30 (⟨hp1.1, hp1.2, hp2, rfl, rfl⟩)

set_option maxHeartbeats 1600000 in
set_option maxRecDepth 20000 in
theorem c_X3_write_rem (l : Launch) (D : va_G) (cy cz : ClassId) (b : Nat → Nat) (g : Nat → Nat) (h : Nat → Nat) (j : Nat → Nat) (z : Nat → Nat) (B : Mem) (P : Mem) (J : Mem) (Z : Mem) (A : AS) (w : List LE) (gs : List Nat) (op : Option Nat) (k : Int32) (v : Int32) (hr : RP A P) (hj : RJ J w gs op) (hl : w.length < 64) : MV l yX3_write wsX3_write (rmF 5 180) D (tyL cy cz) [.ref (b 0), .int 1, .int k, .int v] (wB b (g 0) (h 0) (j 0) B ++ (wG cy g (z 0) P ++ (wJ cy j J ++ (wZ cy z Z)))) (fun (u : Mem × Mem × Mem × Mem) => RP (A.rem (P 0 2) k).1 u.2.1 ∧ u.2.1 0 2 = (A.rem (P 0 2) k).2 ∧ RJ u.2.2.1 (w ++ [(k, none)]) (gsN gs op) (op.map (· + 1)) ∧ u.1 0 0 = B 0 0 ∧ u.1 0 1 = B 0 1 + 1) (fun u => (wB b (g 0) (h 0) (j 0) u.1 ++ (wG cy g (z 0) u.2.1 ++ (wJ cy j u.2.2.1 ++ (wZ cy z u.2.2.2))))) := by
  refine g_entV (cc := cX3_write) (maxL := 4) (own := RX3) (by decide) rfl rfl (Nat.le_of_ble_eq_true rfl) (fun x C ret => ?_)
  show G x l (rmF 5 180) D 4 0 0 (wB b (g 0) (h 0) (j 0) B ++ (wG cy g (z 0) P ++ (wJ cy j J ++ (wZ cy z Z)))) [(0, .ref (b 0)), (1, .int 1), (2, .int k), (3, .int v)] [] 0
  refine g_aload_n C dX3_write_0 0 rfl rfl ?_
  refine g_get C 0 (f := 0) (v := .ref (g 0)) (Cn := RX3) (T := TX3) (N := 5) dX3_write_1 rfl rfl iX3_write_X3 (by decide) mX3_write_f17 rfl ?_
  refine g_iload_n C dX3_write_4 1 rfl rfl ?_
  refine g_iload_n C dX3_write_5 2 rfl rfl ?_
  refine g_iload_n C dX3_write_6 3 rfl rfl ?_
  refine g_callVV C [1, 2, 3, 4, 5, 6, 7, 8, 14, 15, 16] [0, 9, 10, 11, 12, 13] [0, 6, 7, 8, 9, 10, 11, 12, 13, 1, 2, 3, 4, 5, 14, 15, 16] 0 2 (b := g 0) rfl rfl (As := [.int 1, .int k, .int v]) (rest := []) (wr := (wB b (g 0) (h 0) (j 0) B ++ (wJ cy j J))) (wf := fun u1 => (wB b (g 0) (h 0) (j 0) B ++ (wG cy g (z 0) u1.1 ++ (wJ cy j J ++ (wZ cy z u1.2))))) dX3_write_7 gX3_write_X2_carryOut rfl dmX2_carryOut ⟨rfl, rfl, Nat.le_of_ble_eq_true rfl, Nat.le_of_ble_eq_true rfl, Nat.zero_le _, Nat.zero_le _⟩ (c_X2_carryOut_rem l D cy cz g z P Z A k v hr) ⟨rfl, rfl, rfl, rfl, by decide, rfl, fun _ => rfl⟩ (Nat.le_of_ble_eq_true rfl) ?_
  intro u1 hp1
  show G x l (rmF 5 180) D 4 0 0 (wB b (g 0) (h 0) (j 0) B ++ (wG cy g (z 0) u1.1 ++ (wJ cy j J ++ (wZ cy z u1.2)))) [(0, .ref (b 0)), (1, .int 1), (2, .int k), (3, .int v)] [] 10
  refine g_aload_n C dX3_write_10 0 rfl rfl ?_
  refine g_get C 0 (f := 2) (v := .ref (j 0)) (Cn := RX3) (T := TX3) (N := 5) dX3_write_11 rfl rfl iX3_write_X3 (by decide) mX3_write_f27 rfl ?_
  refine g_iload_n C dX3_write_14 1 rfl rfl ?_
  refine g_iload_n C dX3_write_15 2 rfl rfl ?_
  refine g_iload_n C dX3_write_16 3 rfl rfl ?_
  refine g_callVV C [9, 10, 11, 12, 13] [0, 1, 2, 3, 4, 5, 6, 7, 8, 14, 15, 16] [0, 1, 2, 3, 4, 5, 6, 7, 8, 12, 13, 14, 15, 16, 9, 10, 11] 0 1 (b := j 0) rfl rfl (As := [.int 1, .int k, .int v]) (rest := []) (wr := (wB b (g 0) (h 0) (j 0) B ++ (wG cy g (z 0) u1.1 ++ (wZ cy z u1.2)))) (wf := fun J1 => (wB b (g 0) (h 0) (j 0) B ++ (wG cy g (z 0) u1.1 ++ (wJ cy j J1 ++ (wZ cy z u1.2))))) dX3_write_17 gX3_write_X1_note rfl dmX1_note ⟨rfl, rfl, Nat.le_of_ble_eq_true rfl, Nat.le_of_ble_eq_true rfl, Nat.zero_le _, Nat.zero_le _⟩ (c_X1_note l D cy cz j J w gs op 1 k v none hj hl rfl) ⟨rfl, rfl, rfl, rfl, by decide, rfl, fun _ => rfl⟩ (Nat.le_of_ble_eq_true rfl) ?_
  intro J1 hp2
  show G x l (rmF 5 180) D 4 0 0 (wB b (g 0) (h 0) (j 0) B ++ (wG cy g (z 0) u1.1 ++ (wJ cy j J1 ++ (wZ cy z u1.2)))) [(0, .ref (b 0)), (1, .int 1), (2, .int k), (3, .int v)] [] 20
  refine g_aload_n C dX3_write_20 0 rfl rfl ?_
  refine g_dup C dX3_write_21 rfl ?_
  refine g_get C 0 (f := 4) (v := .int (B 0 1)) (Cn := RX3) (T := TX3) (N := 5) dX3_write_22 rfl rfl iX3_write_X3 (by decide) mX3_write_f144 rfl ?_
  refine g_iconst C (v := 1) dX3_write_25 (by decide) ?_
  refine g_iadd C dX3_write_26 ?_
  refine g_put C 0 (f := 4) (v := .int ((B 0 1) + 1)) (ty := .int) (Cn := RX3) (T := TX3) (N := 5) (ws' := (wB b (g 0) (h 0) (j 0) (ps B 0 1 ((B 0 1) + 1)) ++ (wG cy g (z 0) u1.1 ++ (wJ cy j J1 ++ (wZ cy z u1.2))))) dX3_write_27 rfl rfl iX3_write_X3 tyX3 tyX3_ok nmX3 (by decide) mX3_write_f144 rfl rfl (rfl) (rfl) (Nat.le_of_ble_eq_true rfl) (set_l (Nat.le_of_ble_eq_true rfl) (wB_s1 b (g 0) (h 0) (j 0) B ((B 0 1) + 1))) ?_
  exact ret ((ps B 0 1 ((B 0 1) + 1)), u1.1, J1, u1.2) _ _ dX3_write_30 (⟨hp1.1, hp1.2, hp2, rfl, rfl⟩)

theorem mX3_keepCurrent_f21 : Cond.fieldLink RX3 21 (TX3 1).1 (TX3 1).2.1 (TX3 1).2.2.1 ∈ wsX3_keepCurrent := List.mem_of_getElem? (i := 1) rfl
theorem iX3_keepCurrent_X3 : ∀ w ∈ wsX30, w ∈ wsX3_keepCurrent := by decide +kernel
theorem mX3_keepCurrent_f17 : Cond.fieldLink RX3 17 (TX3 0).1 (TX3 0).2.1 (TX3 0).2.2.1 ∈ wsX3_keepCurrent := List.mem_of_getElem? (i := 2) rfl
theorem mX3_keepCurrent_f27 : Cond.fieldLink RX3 27 (TX3 2).1 (TX3 2).2.1 (TX3 2).2.2.1 ∈ wsX3_keepCurrent := List.mem_of_getElem? (i := 3) rfl
set_option maxHeartbeats 1600000 in
set_option maxRecDepth 20000 in
theorem c_X3_keepCurrent (l : Launch) (D : va_G) (cy cz : ClassId) (b : Nat → Nat) (g : Nat → Nat) (h : Nat → Nat) (j : Nat → Nat) (z : Nat → Nat) (B : Mem) (P : Mem) (O : Mem) (J : Mem) : MV l yX3_keepCurrent wsX3_keepCurrent (rmF 2 72) D (tyL cy cz) [.ref (b 0)] (wB b (g 0) (h 0) (j 0) B ++ (wG cy g (z 0) P ++ (wG cy h (z 0) O ++ (wJ cy j J)))) (fun (J1 : Mem) => RJ J1 [] [] none) (fun J1 => (wB b (g 0) (h 0) (j 0) B ++ (wG cy g (z 0) P ++ (wG cy h (z 0) P ++ (wJ cy j J1))))) := by
  refine g_entV (cc := cX3_keepCurrent) (maxL := 1) (own := RX3) (by decide) rfl rfl (Nat.le_of_ble_eq_true rfl) (fun x C ret => ?_)
  show G x l (rmF 2 72) D 1 0 0 (wB b (g 0) (h 0) (j 0) B ++ (wG cy g (z 0) P ++ (wG cy h (z 0) O ++ (wJ cy j J)))) [(0, .ref (b 0))] [] 0
  refine g_aload_n C dX3_keepCurrent_0 0 rfl rfl ?_
  refine g_get C 0 (f := 1) (v := .ref (h 0)) (Cn := RX3) (T := TX3) (N := 5) dX3_keepCurrent_1 rfl rfl iX3_keepCurrent_X3 (by decide) mX3_keepCurrent_f21 rfl ?_
  refine g_aload_n C dX3_keepCurrent_4 0 rfl rfl ?_
  refine g_get C 0 (f := 0) (v := .ref (g 0)) (Cn := RX3) (T := TX3) (N := 5) dX3_keepCurrent_5 rfl rfl iX3_keepCurrent_X3 (by decide) mX3_keepCurrent_f17 rfl ?_
  refine g_callVV C [9, 10, 11, 12, 13, 14, 15, 16, 1, 2, 3, 4, 5, 6, 7, 8] [0, 17, 18, 19, 20, 21] [0, 14, 15, 16, 17, 18, 19, 20, 21, 6, 7, 8, 9, 10, 11, 12, 13, 1, 2, 3, 4, 5] 0 2 (b := h 0) rfl rfl (As := [.ref (g 0)]) (rest := []) (wr := (wB b (g 0) (h 0) (j 0) B ++ (wJ cy j J))) (wf := fun _ => (wB b (g 0) (h 0) (j 0) B ++ (wG cy g (z 0) P ++ (wG cy h (z 0) P ++ (wJ cy j J))))) dX3_keepCurrent_8 gX3_keepCurrent_X2_copyFrom rfl dmX2_copyFrom ⟨rfl, rfl, Nat.le_of_ble_eq_true rfl, Nat.le_of_ble_eq_true rfl, Nat.zero_le _, Nat.zero_le _⟩ (c_X2_copyFrom l D cy cz h g (z 0) O P) ⟨rfl, rfl, rfl, rfl, by decide, rfl, fun _ => rfl⟩ (Nat.le_of_ble_eq_true rfl) ?_
  rintro - -
  show G x l (rmF 2 72) D 1 0 0 (wB b (g 0) (h 0) (j 0) B ++ (wG cy g (z 0) P ++ (wG cy h (z 0) P ++ (wJ cy j J)))) [(0, .ref (b 0))] [] 11
  refine g_aload_n C dX3_keepCurrent_11 0 rfl rfl ?_
  refine g_get C 0 (f := 2) (v := .ref (j 0)) (Cn := RX3) (T := TX3) (N := 5) dX3_keepCurrent_12 rfl rfl iX3_keepCurrent_X3 (by decide) mX3_keepCurrent_f27 rfl ?_
  refine g_callVV C [17, 18, 19, 20, 21] [0, 1, 2, 3, 4, 5, 6, 7, 8, 9, 10, 11, 12, 13, 14, 15, 16] [0, 1, 2, 3, 4, 5, 6, 7, 8, 9, 10, 11, 12, 13, 14, 15, 16, 17, 18, 19, 20, 21] 0 1 (b := j 0) rfl rfl (As := []) (rest := []) (wr := (wB b (g 0) (h 0) (j 0) B ++ (wG cy g (z 0) P ++ (wG cy h (z 0) P)))) (wf := fun J1 => (wB b (g 0) (h 0) (j 0) B ++ (wG cy g (z 0) P ++ (wG cy h (z 0) P ++ (wJ cy j J1))))) dX3_keepCurrent_15 gX3_keepCurrent_X1_clear rfl dmX1_clear ⟨rfl, rfl, Nat.le_of_ble_eq_true rfl, Nat.le_of_ble_eq_true rfl, Nat.zero_le _, Nat.zero_le _⟩ (c_X1_clear l D cy cz j J) ⟨rfl, rfl, rfl, rfl, by decide, rfl, fun _ => rfl⟩ (Nat.le_of_ble_eq_true rfl) ?_
  intro J1 hp1
  show G x l (rmF 2 72) D 1 0 0 (wB b (g 0) (h 0) (j 0) B ++ (wG cy g (z 0) P ++ (wG cy h (z 0) P ++ (wJ cy j J1)))) [(0, .ref (b 0))] [] 18
  exact ret J1 _ _ dX3_keepCurrent_18 hp1

theorem mX3_takeBack_f144 : Cond.fieldLink RX3 144 (TX3 4).1 (TX3 4).2.1 (TX3 4).2.2.1 ∈ wsX3_takeBack := List.mem_of_getElem? (i := 1) rfl
theorem iX3_takeBack_X3 : ∀ w ∈ wsX30, w ∈ wsX3_takeBack := by decide +kernel
theorem mX3_takeBack_f17 : Cond.fieldLink RX3 17 (TX3 0).1 (TX3 0).2.1 (TX3 0).2.2.1 ∈ wsX3_takeBack := List.mem_of_getElem? (i := 2) rfl
theorem mX3_takeBack_f21 : Cond.fieldLink RX3 21 (TX3 1).1 (TX3 1).2.1 (TX3 1).2.2.1 ∈ wsX3_takeBack := List.mem_of_getElem? (i := 3) rfl
theorem mX3_takeBack_f27 : Cond.fieldLink RX3 27 (TX3 2).1 (TX3 2).2.1 (TX3 2).2.2.1 ∈ wsX3_takeBack := List.mem_of_getElem? (i := 4) rfl
set_option maxHeartbeats 1600000 in
set_option maxRecDepth 20000 in
theorem c_X3_takeBack (l : Launch) (D : va_G) (cy cz : ClassId) (b : Nat → Nat) (g : Nat → Nat) (h : Nat → Nat) (j : Nat → Nat) (z : Nat → Nat) (B : Mem) (P : Mem) (O : Mem) (J : Mem) (Z : Mem) (kl : List LE) (w : List LE) (gs : List Nat) (op : Option Nat) (n : Nat) (s : Nat) (hO : RP (sto kl).1 O) (hE : O 0 2 = (sto kl).2) (hj : RJ J w gs op) (hs : s ≤ w.length) (hv : OKL (kl ++ w)) (hn : n ≤ 64) (h0 : n = 0 → RP (sto (kl ++ w.take s)).1 P ∧ P 0 2 = (sto (kl ++ w.take s)).2) : MV l yX3_takeBack wsX3_takeBack (rmF 5 180) D (tyL cy cz) [.ref (b 0), .int (nI n), .int (nI s)] (wB b (g 0) (h 0) (j 0) B ++ (wG cy g (z 0) P ++ (wG cy h (z 0) O ++ (wJ cy j J ++ (wZ cy z Z))))) (fun (u : Mem × Mem × Mem) => RP (sto (kl ++ w.take s)).1 u.2.1 ∧ u.2.1 0 2 = (sto (kl ++ w.take s)).2 ∧ u.1 0 0 = B 0 0 ∧ u.1 0 1 = B 0 1 - nI n) (fun u => (wB b (g 0) (h 0) (j 0) u.1 ++ (wG cy g (z 0) u.2.1 ++ (wG cy h (z 0) O ++ (wJ cy j J ++ (wZ cy z u.2.2)))))) := by
  refine g_entV (cc := cX3_takeBack) (maxL := 4) (own := RX3) (by decide) rfl rfl (Nat.le_of_ble_eq_true rfl) (fun x C ret => ?_)
  show G x l (rmF 5 180) D 4 0 0 (wB b (g 0) (h 0) (j 0) B ++ (wG cy g (z 0) P ++ (wG cy h (z 0) O ++ (wJ cy j J ++ (wZ cy z Z))))) [(0, .ref (b 0)), (1, .int (nI n)), (2, .int (nI s))] [] 0
  have hgl := hj.gl
  refine g_iload_n C dX3_takeBack_0 1 rfl rfl ?_
  refine g_if_ne C (tgt := 5) dX3_takeBack_1 (by decide) (fun c1 => ?_) (fun c1 => ?_)
  · skip
    refine g_aload_n C dX3_takeBack_5 0 rfl rfl ?_
    refine g_dup C dX3_takeBack_6 rfl ?_
    refine g_get C 0 (f := 4) (v := .int (B 0 1)) (Cn := RX3) (T := TX3) (N := 5) dX3_takeBack_7 rfl rfl iX3_takeBack_X3 (by decide) mX3_takeBack_f144 rfl ?_
    refine g_iload_n C dX3_takeBack_10 1 rfl rfl ?_
    refine g_isub C dX3_takeBack_11 ?_
    refine g_put C 0 (f := 4) (v := .int ((B 0 1) - (nI n))) (ty := .int) (Cn := RX3) (T := TX3) (N := 5) (ws' := (wB b (g 0) (h 0) (j 0) (ps B 0 1 ((B 0 1) - (nI n))) ++ (wG cy g (z 0) P ++ (wG cy h (z 0) O ++ (wJ cy j J ++ (wZ cy z Z)))))) dX3_takeBack_12 rfl rfl iX3_takeBack_X3 tyX3 tyX3_ok nmX3 (by decide) mX3_takeBack_f144 rfl rfl (rfl) (rfl) (Nat.le_of_ble_eq_true rfl) (set_l (Nat.le_of_ble_eq_true rfl) (wB_s1 b (g 0) (h 0) (j 0) B ((B 0 1) - (nI n)))) ?_
    refine g_aload_n C dX3_takeBack_15 0 rfl rfl ?_
    refine g_get C 0 (f := 0) (v := .ref (g 0)) (Cn := RX3) (T := TX3) (N := 5) dX3_takeBack_16 rfl rfl iX3_takeBack_X3 (by decide) mX3_takeBack_f17 rfl ?_
    refine g_aload_n C dX3_takeBack_19 0 rfl rfl ?_
    refine g_get C 0 (f := 1) (v := .ref (h 0)) (Cn := RX3) (T := TX3) (N := 5) dX3_takeBack_20 rfl rfl iX3_takeBack_X3 (by decide) mX3_takeBack_f21 rfl ?_
    refine g_callVV C [1, 2, 3, 4, 5, 6, 7, 8, 9, 10, 11, 12, 13, 14, 15, 16] [0, 17, 18, 19, 20, 21, 22, 23, 24] [0, 9, 10, 11, 12, 13, 14, 15, 16, 17, 18, 19, 20, 21, 22, 23, 24, 1, 2, 3, 4, 5, 6, 7, 8] 0 2 (b := g 0) rfl rfl (As := [.ref (h 0)]) (rest := []) (wr := (wB b (g 0) (h 0) (j 0) (ps B 0 1 ((B 0 1) - (nI n))) ++ (wJ cy j J ++ (wZ cy z Z)))) (wf := fun _ => (wB b (g 0) (h 0) (j 0) (ps B 0 1 ((B 0 1) - (nI n))) ++ (wG cy g (z 0) O ++ (wG cy h (z 0) O ++ (wJ cy j J ++ (wZ cy z Z)))))) dX3_takeBack_23 gX3_takeBack_X2_copyFrom rfl dmX2_copyFrom ⟨rfl, rfl, Nat.le_of_ble_eq_true rfl, Nat.le_of_ble_eq_true rfl, Nat.zero_le _, Nat.zero_le _⟩ (c_X2_copyFrom l D cy cz g h (z 0) P O) ⟨rfl, rfl, rfl, rfl, by decide, rfl, fun _ => rfl⟩ (Nat.le_of_ble_eq_true rfl) ?_
    rintro - -
    show G x l (rmF 5 180) D 4 0 0 (wB b (g 0) (h 0) (j 0) (ps B 0 1 ((B 0 1) - (nI n))) ++ (wG cy g (z 0) O ++ (wG cy h (z 0) O ++ (wJ cy j J ++ (wZ cy z Z))))) [(0, .ref (b 0)), (1, .int (nI n)), (2, .int (nI s))] [] 26
    refine g_iconst C (v := 0) dX3_takeBack_26 (by decide) ?_
    refine g_istore_n C (lv' := [(3, .int 0), (0, .ref (b 0)), (1, .int (nI n)), (2, .int (nI s))]) dX3_takeBack_27 rfl (by decide) rfl ?_
    refine g_loop (σ := Nat × Mem × Mem) (fun (a : Nat × Mem × Mem) => match a with | (i, Pi, Zi) => (wB b (g 0) (h 0) (j 0) (ps B 0 1 ((B 0 1) - (nI n))) ++ (wG cy g (z 0) Pi ++ (wG cy h (z 0) O ++ (wJ cy j J ++ (wZ cy z Zi)))))) (fun (a : Nat × Mem × Mem) => match a with | (i, Pi, Zi) => [(3, .int (nI i)), (0, .ref (b 0)), (1, .int (nI n)), (2, .int (nI s))]) (fun (a : Nat × Mem × Mem) => match a with | (i, Pi, Zi) => (i ≤ s) ∧ (RP (sto (kl ++ w.take i)).1 Pi) ∧ (Pi 0 2 = (sto (kl ++ w.take i)).2)) (fun (a : Nat × Mem × Mem) => match a with | (i, Pi, Zi) => s - i) ?_ (0, O, Z) (⟨Nat.zero_le _, by rw [List.take_zero, List.append_nil]; exact hO, by rw [List.take_zero, List.append_nil]; exact hE⟩)
    intro a hI ih
    obtain ⟨i, Pi, Zi⟩ := a
    obtain ⟨i1, i2, i3⟩ : (i ≤ s) ∧ (RP (sto (kl ++ w.take i)).1 Pi) ∧ (Pi 0 2 = (sto (kl ++ w.take i)).2) := hI
    show G x l (rmF 5 180) D 4 0 0 (wB b (g 0) (h 0) (j 0) (ps B 0 1 ((B 0 1) - (nI n))) ++ (wG cy g (z 0) Pi ++ (wG cy h (z 0) O ++ (wJ cy j J ++ (wZ cy z Zi))))) [(3, .int (nI i)), (0, .ref (b 0)), (1, .int (nI n)), (2, .int (nI s))] [] 28
    refine g_iload_n C dX3_takeBack_28 0 rfl rfl ?_
    refine g_iload_n C dX3_takeBack_29 3 rfl rfl ?_
    refine g_icmp_ge C (tgt := 76) dX3_takeBack_30 (by decide) (fun c2 => ?_) (fun c2 => ?_)
    · skip
      have hi : i = s := by have := (nI_leI (by omega) (by omega)).mp c2; omega
      exact ret ((ps B 0 1 ((B 0 1) - (nI n))), Pi, Zi) _ _ dX3_takeBack_76 (⟨by rw [hi] at i2; exact i2, by rw [hi] at i3; exact i3, rfl, rfl⟩)
    · skip
      have his : i < s := Nat.lt_of_not_le (fun w => c2 (nI_le w (by omega)))
      have hi : i < w.length := by omega
      have hw := hj.2.2.2.1 i hi
      have hok := OKL_at hv hi
      refine g_iload_n C dX3_takeBack_33 0 rfl rfl ?_
      refine g_bipush C (v := 64) dX3_takeBack_34 (by decide) ?_
      refine g_icmp_ge C (tgt := 76) dX3_takeBack_36 (by decide) (fun c3 => ?_) (fun c3 => ?_)
      · skip
        exact absurd c3 (nI_ge (a := i) (b := 64) (by omega) (by decide))
      · skip
        rcases ho : (w.getD i (0, none)).2 with _ | v
        · skip
          rw [ho] at hw
          refine g_aload_n C dX3_takeBack_39 1 rfl rfl ?_
          refine g_get C 0 (f := 0) (v := .ref (g 0)) (Cn := RX3) (T := TX3) (N := 5) dX3_takeBack_40 rfl rfl iX3_takeBack_X3 (by decide) mX3_takeBack_f17 rfl ?_
          refine g_aload_n C dX3_takeBack_43 1 rfl rfl ?_
          refine g_get C 0 (f := 2) (v := .ref (j 0)) (Cn := RX3) (T := TX3) (N := 5) dX3_takeBack_44 rfl rfl iX3_takeBack_X3 (by decide) mX3_takeBack_f27 rfl ?_
          refine g_iload_n C dX3_takeBack_47 0 rfl rfl ?_
          refine g_callIV C [17, 18, 19, 20, 21] [0, 1, 2, 3, 4, 5, 6, 7, 8, 9, 10, 11, 12, 13, 14, 15, 16, 22, 23, 24] [0, 1, 2, 3, 4, 5, 6, 7, 8, 9, 10, 11, 12, 13, 14, 15, 16, 20, 21, 22, 23, 24, 17, 18, 19] 0 1 (b := j 0) rfl rfl (As := [.int (nI i)]) (rest := [.ref (g 0)]) (wr := (wB b (g 0) (h 0) (j 0) (ps B 0 1 ((B 0 1) - (nI n))) ++ (wG cy g (z 0) Pi ++ (wG cy h (z 0) O ++ (wZ cy z Zi))))) (wf := fun _ => (wB b (g 0) (h 0) (j 0) (ps B 0 1 ((B 0 1) - (nI n))) ++ (wG cy g (z 0) Pi ++ (wG cy h (z 0) O ++ (wJ cy j J ++ (wZ cy z Zi)))))) dX3_takeBack_48 gX3_takeBack_X1_kindOf rfl dmX1_kindOf ⟨rfl, rfl, Nat.le_of_ble_eq_true rfl, Nat.le_of_ble_eq_true rfl, Nat.zero_le _, Nat.zero_le _⟩ (c_X1_kindOf l D cy cz j J w gs op i hj hi) ⟨rfl, rfl, rfl, rfl, by decide, rfl, fun _ => rfl⟩ (Nat.le_of_ble_eq_true rfl) ?_
          rintro _ - rfl
          show G x l (rmF 5 180) D 4 0 0 (wB b (g 0) (h 0) (j 0) (ps B 0 1 ((B 0 1) - (nI n))) ++ (wG cy g (z 0) Pi ++ (wG cy h (z 0) O ++ (wJ cy j J ++ (wZ cy z Zi))))) [(3, .int (nI i)), (0, .ref (b 0)), (1, .int (nI n)), (2, .int (nI s))] [.int (J 1 i), .ref (g 0)] 51
          refine g_top (b := 1) (hw.2) ?_
          refine g_aload_n C dX3_takeBack_51 1 rfl rfl ?_
          refine g_get C 0 (f := 2) (v := .ref (j 0)) (Cn := RX3) (T := TX3) (N := 5) dX3_takeBack_52 rfl rfl iX3_takeBack_X3 (by decide) mX3_takeBack_f27 rfl ?_
          refine g_iload_n C dX3_takeBack_55 0 rfl rfl ?_
          refine g_callIV C [17, 18, 19, 20, 21] [0, 1, 2, 3, 4, 5, 6, 7, 8, 9, 10, 11, 12, 13, 14, 15, 16, 22, 23, 24] [0, 1, 2, 3, 4, 5, 6, 7, 8, 9, 10, 11, 12, 13, 14, 15, 16, 20, 21, 22, 23, 24, 17, 18, 19] 0 1 (b := j 0) rfl rfl (As := [.int (nI i)]) (rest := [.int 1, .ref (g 0)]) (wr := (wB b (g 0) (h 0) (j 0) (ps B 0 1 ((B 0 1) - (nI n))) ++ (wG cy g (z 0) Pi ++ (wG cy h (z 0) O ++ (wZ cy z Zi))))) (wf := fun _ => (wB b (g 0) (h 0) (j 0) (ps B 0 1 ((B 0 1) - (nI n))) ++ (wG cy g (z 0) Pi ++ (wG cy h (z 0) O ++ (wJ cy j J ++ (wZ cy z Zi)))))) dX3_takeBack_56 gX3_takeBack_X1_keyOf rfl dmX1_keyOf ⟨rfl, rfl, Nat.le_of_ble_eq_true rfl, Nat.le_of_ble_eq_true rfl, Nat.zero_le _, Nat.zero_le _⟩ (c_X1_keyOf l D cy cz j J w gs op i hj hi) ⟨rfl, rfl, rfl, rfl, by decide, rfl, fun _ => rfl⟩ (Nat.le_of_ble_eq_true rfl) ?_
          rintro _ - rfl
          show G x l (rmF 5 180) D 4 0 0 (wB b (g 0) (h 0) (j 0) (ps B 0 1 ((B 0 1) - (nI n))) ++ (wG cy g (z 0) Pi ++ (wG cy h (z 0) O ++ (wJ cy j J ++ (wZ cy z Zi))))) [(3, .int (nI i)), (0, .ref (b 0)), (1, .int (nI n)), (2, .int (nI s))] [.int (J 2 i), .int 1, .ref (g 0)] 59
          refine g_top (b := (w.getD i (0, none)).1) (hw.1) ?_
          refine g_aload_n C dX3_takeBack_59 1 rfl rfl ?_
          refine g_get C 0 (f := 2) (v := .ref (j 0)) (Cn := RX3) (T := TX3) (N := 5) dX3_takeBack_60 rfl rfl iX3_takeBack_X3 (by decide) mX3_takeBack_f27 rfl ?_
          refine g_iload_n C dX3_takeBack_63 0 rfl rfl ?_
          refine g_callIV C [17, 18, 19, 20, 21] [0, 1, 2, 3, 4, 5, 6, 7, 8, 9, 10, 11, 12, 13, 14, 15, 16, 22, 23, 24] [0, 1, 2, 3, 4, 5, 6, 7, 8, 9, 10, 11, 12, 13, 14, 15, 16, 20, 21, 22, 23, 24, 17, 18, 19] 0 1 (b := j 0) rfl rfl (As := [.int (nI i)]) (rest := [.int ((w.getD i (0, none)).1), .int 1, .ref (g 0)]) (wr := (wB b (g 0) (h 0) (j 0) (ps B 0 1 ((B 0 1) - (nI n))) ++ (wG cy g (z 0) Pi ++ (wG cy h (z 0) O ++ (wZ cy z Zi))))) (wf := fun _ => (wB b (g 0) (h 0) (j 0) (ps B 0 1 ((B 0 1) - (nI n))) ++ (wG cy g (z 0) Pi ++ (wG cy h (z 0) O ++ (wJ cy j J ++ (wZ cy z Zi)))))) dX3_takeBack_64 gX3_takeBack_X1_valueOf rfl dmX1_valueOf ⟨rfl, rfl, Nat.le_of_ble_eq_true rfl, Nat.le_of_ble_eq_true rfl, Nat.zero_le _, Nat.zero_le _⟩ (c_X1_valueOf l D cy cz j J w gs op i hj hi) ⟨rfl, rfl, rfl, rfl, by decide, rfl, fun _ => rfl⟩ (Nat.le_of_ble_eq_true rfl) ?_
          rintro _ - rfl
          show G x l (rmF 5 180) D 4 0 0 (wB b (g 0) (h 0) (j 0) (ps B 0 1 ((B 0 1) - (nI n))) ++ (wG cy g (z 0) Pi ++ (wG cy h (z 0) O ++ (wJ cy j J ++ (wZ cy z Zi))))) [(3, .int (nI i)), (0, .ref (b 0)), (1, .int (nI n)), (2, .int (nI s))] [.int (J 3 i), .int ((w.getD i (0, none)).1), .int 1, .ref (g 0)] 67
          refine g_callVV C [1, 2, 3, 4, 5, 6, 7, 8, 22, 23, 24] [0, 9, 10, 11, 12, 13, 14, 15, 16, 17, 18, 19, 20, 21] [0, 14, 15, 16, 17, 18, 19, 20, 21, 1, 2, 3, 4, 5, 6, 7, 8, 9, 10, 11, 12, 13, 22, 23, 24] 0 2 (b := g 0) rfl rfl (As := [.int 1, .int ((w.getD i (0, none)).1), .int (J 3 i)]) (rest := []) (wr := (wB b (g 0) (h 0) (j 0) (ps B 0 1 ((B 0 1) - (nI n))) ++ (wG cy h (z 0) O ++ (wJ cy j J)))) (wf := fun u1 => (wB b (g 0) (h 0) (j 0) (ps B 0 1 ((B 0 1) - (nI n))) ++ (wG cy g (z 0) u1.1 ++ (wG cy h (z 0) O ++ (wJ cy j J ++ (wZ cy z u1.2)))))) dX3_takeBack_67 gX3_takeBack_X2_carryOut rfl dmX2_carryOut ⟨rfl, rfl, Nat.le_of_ble_eq_true rfl, Nat.le_of_ble_eq_true rfl, Nat.zero_le _, Nat.zero_le _⟩ (c_X2_carryOut_rem l D cy cz g z Pi Zi ((sto (kl ++ w.take i)).1) ((w.getD i (0, none)).1) (J 3 i) i2) ⟨rfl, rfl, rfl, rfl, by decide, rfl, fun _ => rfl⟩ (Nat.le_of_ble_eq_true rfl) ?_
          intro u1 hp1
          show G x l (rmF 5 180) D 4 0 0 (wB b (g 0) (h 0) (j 0) (ps B 0 1 ((B 0 1) - (nI n))) ++ (wG cy g (z 0) u1.1 ++ (wG cy h (z 0) O ++ (wJ cy j J ++ (wZ cy z u1.2))))) [(3, .int (nI i)), (0, .ref (b 0)), (1, .int (nI n)), (2, .int (nI s))] [] 70
          refine g_iinc C (q := 0) (v := nI (i + 1)) (lv' := [(3, .int (nI (i + 1))), (0, .ref (b 0)), (1, .int (nI n)), (2, .int (nI s))]) dX3_takeBack_70 rfl (nI_1 i) (by decide) rfl ?_
          refine g_goto C (tgt := 28) dX3_takeBack_73 (by decide) ?_
          exact ih (i + 1, u1.1, u1.2) ⟨by omega, by rw [app_take_succ hi, sto_snoc]; unfold wr; rw [ho]; show RP ((sto (kl ++ w.take i)).1.rem (sto (kl ++ w.take i)).2 (w.getD i (0, none)).1).1 u1.1; rw [← i3]; exact hp1.1, by rw [app_take_succ hi, sto_snoc]; unfold wr; rw [ho]; show u1.1 0 2 = ((sto (kl ++ w.take i)).1.rem (sto (kl ++ w.take i)).2 (w.getD i (0, none)).1).2; rw [← i3]; exact hp1.2⟩ (by show s - (i + 1) < s - i; omega)
        · skip
          rw [ho] at hw
          unfold okE at hok
          rw [ho] at hok
          refine g_aload_n C dX3_takeBack_39 1 rfl rfl ?_
          refine g_get C 0 (f := 0) (v := .ref (g 0)) (Cn := RX3) (T := TX3) (N := 5) dX3_takeBack_40 rfl rfl iX3_takeBack_X3 (by decide) mX3_takeBack_f17 rfl ?_
          refine g_aload_n C dX3_takeBack_43 1 rfl rfl ?_
          refine g_get C 0 (f := 2) (v := .ref (j 0)) (Cn := RX3) (T := TX3) (N := 5) dX3_takeBack_44 rfl rfl iX3_takeBack_X3 (by decide) mX3_takeBack_f27 rfl ?_
          refine g_iload_n C dX3_takeBack_47 0 rfl rfl ?_
          refine g_callIV C [17, 18, 19, 20, 21] [0, 1, 2, 3, 4, 5, 6, 7, 8, 9, 10, 11, 12, 13, 14, 15, 16, 22, 23, 24] [0, 1, 2, 3, 4, 5, 6, 7, 8, 9, 10, 11, 12, 13, 14, 15, 16, 20, 21, 22, 23, 24, 17, 18, 19] 0 1 (b := j 0) rfl rfl (As := [.int (nI i)]) (rest := [.ref (g 0)]) (wr := (wB b (g 0) (h 0) (j 0) (ps B 0 1 ((B 0 1) - (nI n))) ++ (wG cy g (z 0) Pi ++ (wG cy h (z 0) O ++ (wZ cy z Zi))))) (wf := fun _ => (wB b (g 0) (h 0) (j 0) (ps B 0 1 ((B 0 1) - (nI n))) ++ (wG cy g (z 0) Pi ++ (wG cy h (z 0) O ++ (wJ cy j J ++ (wZ cy z Zi)))))) dX3_takeBack_48 gX3_takeBack_X1_kindOf rfl dmX1_kindOf ⟨rfl, rfl, Nat.le_of_ble_eq_true rfl, Nat.le_of_ble_eq_true rfl, Nat.zero_le _, Nat.zero_le _⟩ (c_X1_kindOf l D cy cz j J w gs op i hj hi) ⟨rfl, rfl, rfl, rfl, by decide, rfl, fun _ => rfl⟩ (Nat.le_of_ble_eq_true rfl) ?_
          rintro _ - rfl
          show G x l (rmF 5 180) D 4 0 0 (wB b (g 0) (h 0) (j 0) (ps B 0 1 ((B 0 1) - (nI n))) ++ (wG cy g (z 0) Pi ++ (wG cy h (z 0) O ++ (wJ cy j J ++ (wZ cy z Zi))))) [(3, .int (nI i)), (0, .ref (b 0)), (1, .int (nI n)), (2, .int (nI s))] [.int (J 1 i), .ref (g 0)] 51
          refine g_top (b := 0) (hw.2.1) ?_
          refine g_aload_n C dX3_takeBack_51 1 rfl rfl ?_
          refine g_get C 0 (f := 2) (v := .ref (j 0)) (Cn := RX3) (T := TX3) (N := 5) dX3_takeBack_52 rfl rfl iX3_takeBack_X3 (by decide) mX3_takeBack_f27 rfl ?_
          refine g_iload_n C dX3_takeBack_55 0 rfl rfl ?_
          refine g_callIV C [17, 18, 19, 20, 21] [0, 1, 2, 3, 4, 5, 6, 7, 8, 9, 10, 11, 12, 13, 14, 15, 16, 22, 23, 24] [0, 1, 2, 3, 4, 5, 6, 7, 8, 9, 10, 11, 12, 13, 14, 15, 16, 20, 21, 22, 23, 24, 17, 18, 19] 0 1 (b := j 0) rfl rfl (As := [.int (nI i)]) (rest := [.int 0, .ref (g 0)]) (wr := (wB b (g 0) (h 0) (j 0) (ps B 0 1 ((B 0 1) - (nI n))) ++ (wG cy g (z 0) Pi ++ (wG cy h (z 0) O ++ (wZ cy z Zi))))) (wf := fun _ => (wB b (g 0) (h 0) (j 0) (ps B 0 1 ((B 0 1) - (nI n))) ++ (wG cy g (z 0) Pi ++ (wG cy h (z 0) O ++ (wJ cy j J ++ (wZ cy z Zi)))))) dX3_takeBack_56 gX3_takeBack_X1_keyOf rfl dmX1_keyOf ⟨rfl, rfl, Nat.le_of_ble_eq_true rfl, Nat.le_of_ble_eq_true rfl, Nat.zero_le _, Nat.zero_le _⟩ (c_X1_keyOf l D cy cz j J w gs op i hj hi) ⟨rfl, rfl, rfl, rfl, by decide, rfl, fun _ => rfl⟩ (Nat.le_of_ble_eq_true rfl) ?_
          rintro _ - rfl
          show G x l (rmF 5 180) D 4 0 0 (wB b (g 0) (h 0) (j 0) (ps B 0 1 ((B 0 1) - (nI n))) ++ (wG cy g (z 0) Pi ++ (wG cy h (z 0) O ++ (wJ cy j J ++ (wZ cy z Zi))))) [(3, .int (nI i)), (0, .ref (b 0)), (1, .int (nI n)), (2, .int (nI s))] [.int (J 2 i), .int 0, .ref (g 0)] 59
          refine g_top (b := (w.getD i (0, none)).1) (hw.1) ?_
          refine g_aload_n C dX3_takeBack_59 1 rfl rfl ?_
          refine g_get C 0 (f := 2) (v := .ref (j 0)) (Cn := RX3) (T := TX3) (N := 5) dX3_takeBack_60 rfl rfl iX3_takeBack_X3 (by decide) mX3_takeBack_f27 rfl ?_
          refine g_iload_n C dX3_takeBack_63 0 rfl rfl ?_
          refine g_callIV C [17, 18, 19, 20, 21] [0, 1, 2, 3, 4, 5, 6, 7, 8, 9, 10, 11, 12, 13, 14, 15, 16, 22, 23, 24] [0, 1, 2, 3, 4, 5, 6, 7, 8, 9, 10, 11, 12, 13, 14, 15, 16, 20, 21, 22, 23, 24, 17, 18, 19] 0 1 (b := j 0) rfl rfl (As := [.int (nI i)]) (rest := [.int ((w.getD i (0, none)).1), .int 0, .ref (g 0)]) (wr := (wB b (g 0) (h 0) (j 0) (ps B 0 1 ((B 0 1) - (nI n))) ++ (wG cy g (z 0) Pi ++ (wG cy h (z 0) O ++ (wZ cy z Zi))))) (wf := fun _ => (wB b (g 0) (h 0) (j 0) (ps B 0 1 ((B 0 1) - (nI n))) ++ (wG cy g (z 0) Pi ++ (wG cy h (z 0) O ++ (wJ cy j J ++ (wZ cy z Zi)))))) dX3_takeBack_64 gX3_takeBack_X1_valueOf rfl dmX1_valueOf ⟨rfl, rfl, Nat.le_of_ble_eq_true rfl, Nat.le_of_ble_eq_true rfl, Nat.zero_le _, Nat.zero_le _⟩ (c_X1_valueOf l D cy cz j J w gs op i hj hi) ⟨rfl, rfl, rfl, rfl, by decide, rfl, fun _ => rfl⟩ (Nat.le_of_ble_eq_true rfl) ?_
          rintro _ - rfl
          show G x l (rmF 5 180) D 4 0 0 (wB b (g 0) (h 0) (j 0) (ps B 0 1 ((B 0 1) - (nI n))) ++ (wG cy g (z 0) Pi ++ (wG cy h (z 0) O ++ (wJ cy j J ++ (wZ cy z Zi))))) [(3, .int (nI i)), (0, .ref (b 0)), (1, .int (nI n)), (2, .int (nI s))] [.int (J 3 i), .int ((w.getD i (0, none)).1), .int 0, .ref (g 0)] 67
          refine g_top (b := v) (hw.2.2) ?_
          refine g_callVV C [1, 2, 3, 4, 5, 6, 7, 8, 22, 23, 24] [0, 9, 10, 11, 12, 13, 14, 15, 16, 17, 18, 19, 20, 21] [0, 14, 15, 16, 17, 18, 19, 20, 21, 1, 2, 3, 4, 5, 6, 7, 8, 9, 10, 11, 12, 13, 22, 23, 24] 0 2 (b := g 0) rfl rfl (As := [.int 0, .int ((w.getD i (0, none)).1), .int v]) (rest := []) (wr := (wB b (g 0) (h 0) (j 0) (ps B 0 1 ((B 0 1) - (nI n))) ++ (wG cy h (z 0) O ++ (wJ cy j J)))) (wf := fun u1 => (wB b (g 0) (h 0) (j 0) (ps B 0 1 ((B 0 1) - (nI n))) ++ (wG cy g (z 0) u1.1 ++ (wG cy h (z 0) O ++ (wJ cy j J ++ (wZ cy z u1.2)))))) dX3_takeBack_67 gX3_takeBack_X2_carryOut rfl dmX2_carryOut ⟨rfl, rfl, Nat.le_of_ble_eq_true rfl, Nat.le_of_ble_eq_true rfl, Nat.zero_le _, Nat.zero_le _⟩ (c_X2_carryOut_put l D cy cz g z Pi Zi ((sto (kl ++ w.take i)).1) ((w.getD i (0, none)).1) v i2 hok.1) ⟨rfl, rfl, rfl, rfl, by decide, rfl, fun _ => rfl⟩ (Nat.le_of_ble_eq_true rfl) ?_
          intro u1 hp1
          show G x l (rmF 5 180) D 4 0 0 (wB b (g 0) (h 0) (j 0) (ps B 0 1 ((B 0 1) - (nI n))) ++ (wG cy g (z 0) u1.1 ++ (wG cy h (z 0) O ++ (wJ cy j J ++ (wZ cy z u1.2))))) [(3, .int (nI i)), (0, .ref (b 0)), (1, .int (nI n)), (2, .int (nI s))] [] 70
          refine g_iinc C (q := 0) (v := nI (i + 1)) (lv' := [(3, .int (nI (i + 1))), (0, .ref (b 0)), (1, .int (nI n)), (2, .int (nI s))]) dX3_takeBack_70 rfl (nI_1 i) (by decide) rfl ?_
          refine g_goto C (tgt := 28) dX3_takeBack_73 (by decide) ?_
          exact ih (i + 1, u1.1, u1.2) ⟨by omega, by rw [app_take_succ hi, sto_snoc]; unfold wr; rw [ho]; show RP ((sto (kl ++ w.take i)).1.put (sto (kl ++ w.take i)).2 (w.getD i (0, none)).1 v).1 u1.1; rw [← i3]; exact hp1.1, by rw [app_take_succ hi, sto_snoc]; unfold wr; rw [ho]; show u1.1 0 2 = ((sto (kl ++ w.take i)).1.put (sto (kl ++ w.take i)).2 (w.getD i (0, none)).1 v).2; rw [← i3]; exact hp1.2⟩ (by show s - (i + 1) < s - i; omega)
  · skip
    have hn0 : n = 0 := (nI_eq (b := 0) (by omega) (by decide)).mp c1
    exact ret (B, P, Z) _ _ dX3_takeBack_4 (⟨(h0 hn0).1, (h0 hn0).2, rfl, by rw [hn0]; exact (Int32.sub_zero _).symm⟩)

theorem mX3_put_k32 : Cond.constant RX3 32 (-2000000001) ∈ wsX3_put := List.mem_of_getElem? (i := 2) rfl
theorem mX3_put_k31 : Cond.constant RX3 31 (1000000000) ∈ wsX3_put := List.mem_of_getElem? (i := 1) rfl
theorem mX3_put_f17 : Cond.fieldLink RX3 17 (TX3 0).1 (TX3 0).2.1 (TX3 0).2.2.1 ∈ wsX3_put := List.mem_of_getElem? (i := 3) rfl
theorem iX3_put_X3 : ∀ w ∈ wsX30, w ∈ wsX3_put := by decide +kernel
theorem mX3_put_k37 : Cond.constant RX3 37 (-2000000005) ∈ wsX3_put := List.mem_of_getElem? (i := 4) rfl
theorem mX3_put_f27 : Cond.fieldLink RX3 27 (TX3 2).1 (TX3 2).2.1 (TX3 2).2.2.1 ∈ wsX3_put := List.mem_of_getElem? (i := 6) rfl
theorem mX3_put_k47 : Cond.constant RX3 47 (-2000000004) ∈ wsX3_put := List.mem_of_getElem? (i := 7) rfl
theorem mX3_put_k42 : Cond.constant RX3 42 (-2000000003) ∈ wsX3_put := List.mem_of_getElem? (i := 5) rfl
set_option maxHeartbeats 1600000 in
set_option maxRecDepth 20000 in
theorem c_X3_put (l : Launch) (D : va_G) (cy cz : ClassId) (b : Nat → Nat) (g : Nat → Nat) (h : Nat → Nat) (j : Nat → Nat) (z : Nat → Nat) (B : Mem) (P : Mem) (O : Mem) (J : Mem) (Z : Mem) (T : TS) (k : Int32) (v : Int32) (hx : RX T (B, P, O, J, Z)) : MI l yX3_put wsX3_put (rmF 6 216) D (tyL cy cz) [.ref (b 0), .int k, .int v] (wB b (g 0) (h 0) (j 0) B ++ (wG cy g (z 0) P ++ (wG cy h (z 0) O ++ (wJ cy j J ++ (wZ cy z Z))))) (fun (r : Int32) (u : M5) => r = (aPut T k v).1 ∧ RX (aPut T k v).2 u) (fun u => (wB b (g 0) (h 0) (j 0) u.1 ++ (wG cy g (z 0) u.2.1 ++ (wG cy h (z 0) u.2.2.1 ++ (wJ cy j u.2.2.2.1 ++ (wZ cy z u.2.2.2.2)))))) := by
  refine g_entI (cc := cX3_put) (maxL := 4) (own := RX3) (by decide) rfl rfl (Nat.le_of_ble_eq_true rfl) (fun x C ret => ?_)
  show G x l (rmF 6 216) D 4 0 0 (wB b (g 0) (h 0) (j 0) B ++ (wG cy g (z 0) P ++ (wG cy h (z 0) O ++ (wJ cy j J ++ (wZ cy z Z))))) [(0, .ref (b 0)), (1, .int k), (2, .int v)] [] 0
  refine g_iload_n C dX3_put_0 2 rfl rfl ?_
  refine g_if_lt C (tgt := 10) dX3_put_1 (by decide) (fun c1 => ?_) (fun c1 => ?_)
  · skip
    refine g_ldc C (v := (-2000000001)) mX3_put_k32 dX3_put_10 ?_
    exact ret _ (B, P, O, J, Z) _ _ dX3_put_12 (by rw [aPut_bad (Or.inl c1)]; exact ⟨rfl, hx⟩)
  · skip
    refine g_iload_n C dX3_put_4 2 rfl rfl ?_
    refine g_ldc C (v := 1000000000) mX3_put_k31 dX3_put_5 ?_
    refine g_icmp_le C (tgt := 13) dX3_put_7 (by decide) (fun c2 => ?_) (fun c2 => ?_)
    · skip
      have hv : ¬ (v < 0 ∨ 1000000000 < v) := fun w => w.elim c1 (fun w => absurd c2 (Int32.not_le.mpr w))
      refine g_aload_n C dX3_put_13 0 rfl rfl ?_
      refine g_get C 0 (f := 0) (v := .ref (g 0)) (Cn := RX3) (T := TX3) (N := 5) dX3_put_14 rfl rfl iX3_put_X3 (by decide) mX3_put_f17 rfl ?_
      refine g_iload_n C dX3_put_17 1 rfl rfl ?_
      refine g_callIV C [1, 2, 3, 4, 5, 6, 7, 8] [0, 9, 10, 11, 12, 13, 14, 15, 16, 17, 18, 19, 20, 21, 22, 23, 24] [0, 17, 18, 19, 20, 21, 22, 23, 24, 1, 2, 3, 4, 5, 6, 7, 8, 9, 10, 11, 12, 13, 14, 15, 16] 0 2 (b := g 0) rfl rfl (As := [.int k]) (rest := []) (wr := (wB b (g 0) (h 0) (j 0) B ++ (wG cy h (z 0) O ++ (wJ cy j J ++ (wZ cy z Z))))) (wf := fun _ => (wB b (g 0) (h 0) (j 0) B ++ (wG cy g (z 0) P ++ (wG cy h (z 0) O ++ (wJ cy j J ++ (wZ cy z Z)))))) dX3_put_18 gX3_put_X2_find rfl dmX2_find ⟨rfl, rfl, Nat.le_of_ble_eq_true rfl, Nat.le_of_ble_eq_true rfl, Nat.zero_le _, Nat.zero_le _⟩ (c_X2_find l D cy cz g (z 0) P T.A k hx.1) ⟨rfl, rfl, rfl, rfl, by decide, rfl, fun _ => rfl⟩ (Nat.le_of_ble_eq_true rfl) ?_
      rintro _ - rfl
      show G x l (rmF 6 216) D 4 0 0 (wB b (g 0) (h 0) (j 0) B ++ (wG cy g (z 0) P ++ (wG cy h (z 0) O ++ (wJ cy j J ++ (wZ cy z Z))))) [(0, .ref (b 0)), (1, .int k), (2, .int v)] [.int (ocI (T.A.fnd k))] 21
      rcases hf : T.A.fnd k with _ | c
      · skip
        show G x l (rmF 6 216) D 4 0 0 (wB b (g 0) (h 0) (j 0) B ++ (wG cy g (z 0) P ++ (wG cy h (z 0) O ++ (wJ cy j J ++ (wZ cy z Z))))) [(0, .ref (b 0)), (1, .int k), (2, .int v)] [.int vNONE] 21
        refine g_ldc C (v := vNONE) mX3_put_k37 dX3_put_21 ?_
        refine g_icmp_eq C (tgt := 30) dX3_put_23 (by decide) (fun c3 => ?_) (fun c3 => ?_)
        · skip
          refine g_iconst C (v := 0) dX3_put_30 (by decide) ?_
          refine g_istore_n C (lv' := [(3, .int 0), (0, .ref (b 0)), (1, .int k), (2, .int v)]) dX3_put_31 rfl (by decide) rfl ?_
          refine g_iload_n C dX3_put_32 0 rfl rfl ?_
          refine g_if_ne C (tgt := 50) dX3_put_33 (by decide) (fun c6 => ?_) (fun c6 => ?_)
          · skip
            exact absurd rfl (c6)
          · skip
            refine g_aload_n C dX3_put_36 1 rfl rfl ?_
            refine g_get C 0 (f := 0) (v := .ref (g 0)) (Cn := RX3) (T := TX3) (N := 5) dX3_put_37 rfl rfl iX3_put_X3 (by decide) mX3_put_f17 rfl ?_
            refine g_iload_n C dX3_put_40 2 rfl rfl ?_
            refine g_callIV C [1, 2, 3, 4, 5, 6, 7, 8] [0, 9, 10, 11, 12, 13, 14, 15, 16, 17, 18, 19, 20, 21, 22, 23, 24] [0, 17, 18, 19, 20, 21, 22, 23, 24, 1, 2, 3, 4, 5, 6, 7, 8, 9, 10, 11, 12, 13, 14, 15, 16] 0 2 (b := g 0) rfl rfl (As := [.int k]) (rest := []) (wr := (wB b (g 0) (h 0) (j 0) B ++ (wG cy h (z 0) O ++ (wJ cy j J ++ (wZ cy z Z))))) (wf := fun _ => (wB b (g 0) (h 0) (j 0) B ++ (wG cy g (z 0) P ++ (wG cy h (z 0) O ++ (wJ cy j J ++ (wZ cy z Z)))))) dX3_put_41 gX3_put_X2_hasRoomFor rfl dmX2_hasRoomFor ⟨rfl, rfl, Nat.le_of_ble_eq_true rfl, Nat.le_of_ble_eq_true rfl, Nat.zero_le _, Nat.zero_le _⟩ (c_X2_hasRoomFor l D cy cz g (z 0) P T.A k hx.1) ⟨rfl, rfl, rfl, rfl, by decide, rfl, fun _ => rfl⟩ (Nat.le_of_ble_eq_true rfl) ?_
            rintro _ - rfl
            show G x l (rmF 6 216) D 4 0 0 (wB b (g 0) (h 0) (j 0) B ++ (wG cy g (z 0) P ++ (wG cy h (z 0) O ++ (wJ cy j J ++ (wZ cy z Z))))) [(3, .int 0), (0, .ref (b 0)), (1, .int k), (2, .int v)] [.int (if T.A.sz (T.A.la (T.A.ad k)) < 4 ∨ ¬ T.A.lf = none then 1 else 0)] 44
            refine g_if_ne C (tgt := 50) dX3_put_44 (by decide) (fun c4 => ?_) (fun c4 => ?_)
            · skip
              have hm : T.A.fnd k = none → T.A.rm (T.A.ad k) := fun _ => (show T.A.sz (T.A.la (T.A.ad k)) < 4 ∨ ¬ T.A.lf = none from Decidable.byContradiction (fun w => c4 (if_neg w)))
              refine g_aload_n C dX3_put_50 1 rfl rfl ?_
              refine g_get C 0 (f := 2) (v := .ref (j 0)) (Cn := RX3) (T := TX3) (N := 5) dX3_put_51 rfl rfl iX3_put_X3 (by decide) mX3_put_f27 rfl ?_
              refine g_callIV C [17, 18, 19, 20, 21] [0, 1, 2, 3, 4, 5, 6, 7, 8, 9, 10, 11, 12, 13, 14, 15, 16, 22, 23, 24] [0, 1, 2, 3, 4, 5, 6, 7, 8, 9, 10, 11, 12, 13, 14, 15, 16, 20, 21, 22, 23, 24, 17, 18, 19] 0 1 (b := j 0) rfl rfl (As := []) (rest := []) (wr := (wB b (g 0) (h 0) (j 0) B ++ (wG cy g (z 0) P ++ (wG cy h (z 0) O ++ (wZ cy z Z))))) (wf := fun _ => (wB b (g 0) (h 0) (j 0) B ++ (wG cy g (z 0) P ++ (wG cy h (z 0) O ++ (wJ cy j J ++ (wZ cy z Z)))))) dX3_put_54 gX3_put_X1_isFull rfl dmX1_isFull ⟨rfl, rfl, Nat.le_of_ble_eq_true rfl, Nat.le_of_ble_eq_true rfl, Nat.zero_le _, Nat.zero_le _⟩ (c_X1_isFull l D cy cz j J) ⟨rfl, rfl, rfl, rfl, by decide, rfl, fun _ => rfl⟩ (Nat.le_of_ble_eq_true rfl) ?_
              rintro _ - rfl
              show G x l (rmF 6 216) D 4 0 0 (wB b (g 0) (h 0) (j 0) B ++ (wG cy g (z 0) P ++ (wG cy h (z 0) O ++ (wJ cy j J ++ (wZ cy z Z))))) [(3, .int 0), (0, .ref (b 0)), (1, .int k), (2, .int v)] [.int (if 64 ≤ J 0 0 then 1 else 0)] 57
              refine g_top (b := if 64 ≤ T.w.length then 1 else 0) (full_eq hx.2.2.2.2.1) ?_
              refine g_if_eq C (tgt := 63) dX3_put_57 (by decide) (fun c5 => ?_) (fun c5 => ?_)
              · skip
                have hl : T.w.length < 64 := Nat.lt_of_not_le (fun w => by rw [if_pos w] at c5; exact absurd c5 (by decide))
                refine g_aload_n C dX3_put_63 1 rfl rfl ?_
                refine g_iconst C (v := 0) dX3_put_64 (by decide) ?_
                refine g_iload_n C dX3_put_65 2 rfl rfl ?_
                refine g_iload_n C dX3_put_66 3 rfl rfl ?_
                refine g_callVV C [0, 1, 2, 3, 4, 5, 6, 7, 8, 17, 18, 19, 20, 21, 22, 23, 24] [9, 10, 11, 12, 13, 14, 15, 16] [8, 9, 10, 11, 12, 13, 14, 15, 16, 0, 1, 2, 3, 4, 5, 6, 7, 17, 18, 19, 20, 21, 22, 23, 24] 0 3 (b := b 0) rfl rfl (As := [.int 0, .int k, .int v]) (rest := []) (wr := (wG cy h (z 0) O)) (wf := fun u1 => (wB b (g 0) (h 0) (j 0) u1.1 ++ (wG cy g (z 0) u1.2.1 ++ (wG cy h (z 0) O ++ (wJ cy j u1.2.2.1 ++ (wZ cy z u1.2.2.2)))))) dX3_put_67 gX3_put_X3_write rfl dmX3_write ⟨rfl, rfl, Nat.le_of_ble_eq_true rfl, Nat.le_of_ble_eq_true rfl, Nat.zero_le _, Nat.zero_le _⟩ (c_X3_write_put l D cy cz b g h j z B P J Z T.A T.w T.gs T.op k v hx.1 hm hx.2.2.2.2.1 hl) ⟨rfl, rfl, rfl, rfl, by decide, rfl, fun _ => rfl⟩ (Nat.le_of_ble_eq_true rfl) ?_
                intro u1 hp1
                show G x l (rmF 6 216) D 4 0 0 (wB b (g 0) (h 0) (j 0) u1.1 ++ (wG cy g (z 0) u1.2.1 ++ (wG cy h (z 0) O ++ (wJ cy j u1.2.2.1 ++ (wZ cy z u1.2.2.2))))) [(3, .int 0), (0, .ref (b 0)), (1, .int k), (2, .int v)] [] 70
                obtain ⟨y1, y2, y3, y4, y5⟩ := hp1
                rw [show P 0 2 = T.E from hx.2.1] at y1 y2
                have hN : RX (T.note (k, some v)) (u1.1, u1.2.1, O, u1.2.2.1, u1.2.2.2) := RX_note hx y1 y2 y3 y4 y5 ⟨hm, Int32.not_lt.mp c1⟩
                refine g_iload_n C dX3_put_70 0 rfl rfl ?_
                refine g_if_eq C (tgt := 78) dX3_put_71 (by decide) (fun c7 => ?_) (fun c7 => ?_)
                · skip
                  refine g_iconst C (v := 0) dX3_put_78 (by decide) ?_
                  exact ret _ (u1.1, u1.2.1, O, u1.2.2.1, u1.2.2.2) _ _ dX3_put_79 (by rw [aPut_ok hv hm hl, hf]; exact ⟨rfl, hN⟩)
                · skip
                  exact absurd rfl (c7)
              · skip
                have hl : 64 ≤ T.w.length := Decidable.byContradiction (fun w => c5 (if_neg w))
                refine g_ldc C (v := (-2000000004)) mX3_put_k47 dX3_put_60 ?_
                exact ret _ (B, P, O, J, Z) _ _ dX3_put_62 (by rw [aPut_log hv hm hl]; exact ⟨rfl, hx⟩)
            · skip
              have hm : ¬ (T.A.sz (T.A.la (T.A.ad k)) < 4 ∨ ¬ T.A.lf = none) := fun w => by rw [if_pos w] at c4; exact absurd c4 (by decide)
              refine g_ldc C (v := (-2000000003)) mX3_put_k42 dX3_put_47 ?_
              exact ret _ (B, P, O, J, Z) _ _ dX3_put_49 (by rw [aPut_full hv hf hm]; exact ⟨rfl, hx⟩)
        · skip
          exact absurd rfl (c3)
      · skip
        have hc5 : c < 512 := fnd_lt hx.1.1.1 hx.1.2.1 hf
        have hm : T.A.fnd k = none → T.A.rm (T.A.ad k) := fun w => by rw [hf] at w; cases w
        show G x l (rmF 6 216) D 4 0 0 (wB b (g 0) (h 0) (j 0) B ++ (wG cy g (z 0) P ++ (wG cy h (z 0) O ++ (wJ cy j J ++ (wZ cy z Z))))) [(0, .ref (b 0)), (1, .int k), (2, .int v)] [.int (nI c)] 21
        refine g_ldc C (v := vNONE) mX3_put_k37 dX3_put_21 ?_
        refine g_icmp_eq C (tgt := 30) dX3_put_23 (by decide) (fun c3 => ?_) (fun c3 => ?_)
        · skip
          exact absurd c3 (NONE_nI (by omega))
        · skip
          refine g_iconst C (v := 1) dX3_put_26 (by decide) ?_
          refine g_goto C (tgt := 31) dX3_put_27 (by decide) ?_
          refine g_istore_n C (lv' := [(3, .int 1), (0, .ref (b 0)), (1, .int k), (2, .int v)]) dX3_put_31 rfl (by decide) rfl ?_
          refine g_iload_n C dX3_put_32 0 rfl rfl ?_
          refine g_if_ne C (tgt := 50) dX3_put_33 (by decide) (fun c6 => ?_) (fun c6 => ?_)
          · skip
            refine g_aload_n C dX3_put_50 1 rfl rfl ?_
            refine g_get C 0 (f := 2) (v := .ref (j 0)) (Cn := RX3) (T := TX3) (N := 5) dX3_put_51 rfl rfl iX3_put_X3 (by decide) mX3_put_f27 rfl ?_
            refine g_callIV C [17, 18, 19, 20, 21] [0, 1, 2, 3, 4, 5, 6, 7, 8, 9, 10, 11, 12, 13, 14, 15, 16, 22, 23, 24] [0, 1, 2, 3, 4, 5, 6, 7, 8, 9, 10, 11, 12, 13, 14, 15, 16, 20, 21, 22, 23, 24, 17, 18, 19] 0 1 (b := j 0) rfl rfl (As := []) (rest := []) (wr := (wB b (g 0) (h 0) (j 0) B ++ (wG cy g (z 0) P ++ (wG cy h (z 0) O ++ (wZ cy z Z))))) (wf := fun _ => (wB b (g 0) (h 0) (j 0) B ++ (wG cy g (z 0) P ++ (wG cy h (z 0) O ++ (wJ cy j J ++ (wZ cy z Z)))))) dX3_put_54 gX3_put_X1_isFull rfl dmX1_isFull ⟨rfl, rfl, Nat.le_of_ble_eq_true rfl, Nat.le_of_ble_eq_true rfl, Nat.zero_le _, Nat.zero_le _⟩ (c_X1_isFull l D cy cz j J) ⟨rfl, rfl, rfl, rfl, by decide, rfl, fun _ => rfl⟩ (Nat.le_of_ble_eq_true rfl) ?_
            rintro _ - rfl
            show G x l (rmF 6 216) D 4 0 0 (wB b (g 0) (h 0) (j 0) B ++ (wG cy g (z 0) P ++ (wG cy h (z 0) O ++ (wJ cy j J ++ (wZ cy z Z))))) [(3, .int 1), (0, .ref (b 0)), (1, .int k), (2, .int v)] [.int (if 64 ≤ J 0 0 then 1 else 0)] 57
            refine g_top (b := if 64 ≤ T.w.length then 1 else 0) (full_eq hx.2.2.2.2.1) ?_
            refine g_if_eq C (tgt := 63) dX3_put_57 (by decide) (fun c5 => ?_) (fun c5 => ?_)
            · skip
              have hl : T.w.length < 64 := Nat.lt_of_not_le (fun w => by rw [if_pos w] at c5; exact absurd c5 (by decide))
              refine g_aload_n C dX3_put_63 1 rfl rfl ?_
              refine g_iconst C (v := 0) dX3_put_64 (by decide) ?_
              refine g_iload_n C dX3_put_65 2 rfl rfl ?_
              refine g_iload_n C dX3_put_66 3 rfl rfl ?_
              refine g_callVV C [0, 1, 2, 3, 4, 5, 6, 7, 8, 17, 18, 19, 20, 21, 22, 23, 24] [9, 10, 11, 12, 13, 14, 15, 16] [8, 9, 10, 11, 12, 13, 14, 15, 16, 0, 1, 2, 3, 4, 5, 6, 7, 17, 18, 19, 20, 21, 22, 23, 24] 0 3 (b := b 0) rfl rfl (As := [.int 0, .int k, .int v]) (rest := []) (wr := (wG cy h (z 0) O)) (wf := fun u1 => (wB b (g 0) (h 0) (j 0) u1.1 ++ (wG cy g (z 0) u1.2.1 ++ (wG cy h (z 0) O ++ (wJ cy j u1.2.2.1 ++ (wZ cy z u1.2.2.2)))))) dX3_put_67 gX3_put_X3_write rfl dmX3_write ⟨rfl, rfl, Nat.le_of_ble_eq_true rfl, Nat.le_of_ble_eq_true rfl, Nat.zero_le _, Nat.zero_le _⟩ (c_X3_write_put l D cy cz b g h j z B P J Z T.A T.w T.gs T.op k v hx.1 hm hx.2.2.2.2.1 hl) ⟨rfl, rfl, rfl, rfl, by decide, rfl, fun _ => rfl⟩ (Nat.le_of_ble_eq_true rfl) ?_
              intro u1 hp1
              show G x l (rmF 6 216) D 4 0 0 (wB b (g 0) (h 0) (j 0) u1.1 ++ (wG cy g (z 0) u1.2.1 ++ (wG cy h (z 0) O ++ (wJ cy j u1.2.2.1 ++ (wZ cy z u1.2.2.2))))) [(3, .int 1), (0, .ref (b 0)), (1, .int k), (2, .int v)] [] 70
              obtain ⟨y1, y2, y3, y4, y5⟩ := hp1
              rw [show P 0 2 = T.E from hx.2.1] at y1 y2
              have hN : RX (T.note (k, some v)) (u1.1, u1.2.1, O, u1.2.2.1, u1.2.2.2) := RX_note hx y1 y2 y3 y4 y5 ⟨hm, Int32.not_lt.mp c1⟩
              refine g_iload_n C dX3_put_70 0 rfl rfl ?_
              refine g_if_eq C (tgt := 78) dX3_put_71 (by decide) (fun c7 => ?_) (fun c7 => ?_)
              · skip
                exact absurd c7 (by decide)
              · skip
                refine g_iconst C (v := 1) dX3_put_74 (by decide) ?_
                refine g_goto C (tgt := 79) dX3_put_75 (by decide) ?_
                exact ret _ (u1.1, u1.2.1, O, u1.2.2.1, u1.2.2.2) _ _ dX3_put_79 (by rw [aPut_ok hv hm hl, hf]; exact ⟨rfl, hN⟩)
            · skip
              have hl : 64 ≤ T.w.length := Decidable.byContradiction (fun w => c5 (if_neg w))
              refine g_ldc C (v := (-2000000004)) mX3_put_k47 dX3_put_60 ?_
              exact ret _ (B, P, O, J, Z) _ _ dX3_put_62 (by rw [aPut_log hv hm hl]; exact ⟨rfl, hx⟩)
          · skip
            exact absurd c6 (by decide)
    · skip
      refine g_ldc C (v := (-2000000001)) mX3_put_k32 dX3_put_10 ?_
      exact ret _ (B, P, O, J, Z) _ _ dX3_put_12 (by rw [aPut_bad (Or.inr (Int32.not_le.mp c2))]; exact ⟨rfl, hx⟩)

theorem mX3_remove_f17 : Cond.fieldLink RX3 17 (TX3 0).1 (TX3 0).2.1 (TX3 0).2.2.1 ∈ wsX3_remove := List.mem_of_getElem? (i := 1) rfl
theorem iX3_remove_X3 : ∀ w ∈ wsX30, w ∈ wsX3_remove := by decide +kernel
theorem mX3_remove_k37 : Cond.constant RX3 37 (-2000000005) ∈ wsX3_remove := List.mem_of_getElem? (i := 2) rfl
theorem mX3_remove_f27 : Cond.fieldLink RX3 27 (TX3 2).1 (TX3 2).2.1 (TX3 2).2.2.1 ∈ wsX3_remove := List.mem_of_getElem? (i := 3) rfl
theorem mX3_remove_k47 : Cond.constant RX3 47 (-2000000004) ∈ wsX3_remove := List.mem_of_getElem? (i := 4) rfl
set_option maxHeartbeats 1600000 in
set_option maxRecDepth 20000 in
theorem c_X3_remove (l : Launch) (D : va_G) (cy cz : ClassId) (b : Nat → Nat) (g : Nat → Nat) (h : Nat → Nat) (j : Nat → Nat) (z : Nat → Nat) (B : Mem) (P : Mem) (O : Mem) (J : Mem) (Z : Mem) (T : TS) (k : Int32) (hx : RX T (B, P, O, J, Z)) : MI l yX3_remove wsX3_remove (rmF 6 216) D (tyL cy cz) [.ref (b 0), .int k] (wB b (g 0) (h 0) (j 0) B ++ (wG cy g (z 0) P ++ (wG cy h (z 0) O ++ (wJ cy j J ++ (wZ cy z Z))))) (fun (r : Int32) (u : M5) => r = (aRem T k).1 ∧ RX (aRem T k).2 u) (fun u => (wB b (g 0) (h 0) (j 0) u.1 ++ (wG cy g (z 0) u.2.1 ++ (wG cy h (z 0) u.2.2.1 ++ (wJ cy j u.2.2.2.1 ++ (wZ cy z u.2.2.2.2)))))) := by
  refine g_entI (cc := cX3_remove) (maxL := 4) (own := RX3) (by decide) rfl rfl (Nat.le_of_ble_eq_true rfl) (fun x C ret => ?_)
  show G x l (rmF 6 216) D 4 0 0 (wB b (g 0) (h 0) (j 0) B ++ (wG cy g (z 0) P ++ (wG cy h (z 0) O ++ (wJ cy j J ++ (wZ cy z Z))))) [(0, .ref (b 0)), (1, .int k)] [] 0
  refine g_aload_n C dX3_remove_0 0 rfl rfl ?_
  refine g_get C 0 (f := 0) (v := .ref (g 0)) (Cn := RX3) (T := TX3) (N := 5) dX3_remove_1 rfl rfl iX3_remove_X3 (by decide) mX3_remove_f17 rfl ?_
  refine g_iload_n C dX3_remove_4 1 rfl rfl ?_
  refine g_callIV C [1, 2, 3, 4, 5, 6, 7, 8] [0, 9, 10, 11, 12, 13, 14, 15, 16, 17, 18, 19, 20, 21, 22, 23, 24] [0, 17, 18, 19, 20, 21, 22, 23, 24, 1, 2, 3, 4, 5, 6, 7, 8, 9, 10, 11, 12, 13, 14, 15, 16] 0 2 (b := g 0) rfl rfl (As := [.int k]) (rest := []) (wr := (wB b (g 0) (h 0) (j 0) B ++ (wG cy h (z 0) O ++ (wJ cy j J ++ (wZ cy z Z))))) (wf := fun _ => (wB b (g 0) (h 0) (j 0) B ++ (wG cy g (z 0) P ++ (wG cy h (z 0) O ++ (wJ cy j J ++ (wZ cy z Z)))))) dX3_remove_5 gX3_remove_X2_find rfl dmX2_find ⟨rfl, rfl, Nat.le_of_ble_eq_true rfl, Nat.le_of_ble_eq_true rfl, Nat.zero_le _, Nat.zero_le _⟩ (c_X2_find l D cy cz g (z 0) P T.A k hx.1) ⟨rfl, rfl, rfl, rfl, by decide, rfl, fun _ => rfl⟩ (Nat.le_of_ble_eq_true rfl) ?_
  rintro _ - rfl
  show G x l (rmF 6 216) D 4 0 0 (wB b (g 0) (h 0) (j 0) B ++ (wG cy g (z 0) P ++ (wG cy h (z 0) O ++ (wJ cy j J ++ (wZ cy z Z))))) [(0, .ref (b 0)), (1, .int k)] [.int (ocI (T.A.fnd k))] 8
  rcases hf : T.A.fnd k with _ | c
  · skip
    show G x l (rmF 6 216) D 4 0 0 (wB b (g 0) (h 0) (j 0) B ++ (wG cy g (z 0) P ++ (wG cy h (z 0) O ++ (wJ cy j J ++ (wZ cy z Z))))) [(0, .ref (b 0)), (1, .int k)] [.int vNONE] 8
    refine g_istore_n C (lv' := [(2, .int vNONE), (0, .ref (b 0)), (1, .int k)]) dX3_remove_8 rfl (by decide) rfl ?_
    refine g_iload_n C dX3_remove_9 0 rfl rfl ?_
    refine g_ldc C (v := vNONE) mX3_remove_k37 dX3_remove_10 ?_
    refine g_icmp_ne C (tgt := 18) dX3_remove_12 (by decide) (fun c3 => ?_) (fun c3 => ?_)
    · skip
      exact absurd rfl (c3)
    · skip
      refine g_ldc C (v := vNONE) mX3_remove_k37 dX3_remove_15 ?_
      exact ret _ (B, P, O, J, Z) _ _ dX3_remove_17 (by unfold aRem; rw [hf]; exact ⟨rfl, hx⟩)
  · skip
    have hc5 : c < 512 := fnd_lt hx.1.1.1 hx.1.2.1 hf
    have hvc := hx.1.valC (hx.1.adlt k) (fnd_live hf).1
    show G x l (rmF 6 216) D 4 0 0 (wB b (g 0) (h 0) (j 0) B ++ (wG cy g (z 0) P ++ (wG cy h (z 0) O ++ (wJ cy j J ++ (wZ cy z Z))))) [(0, .ref (b 0)), (1, .int k)] [.int (nI c)] 8
    refine g_istore_n C (lv' := [(2, .int (nI c)), (0, .ref (b 0)), (1, .int k)]) dX3_remove_8 rfl (by decide) rfl ?_
    refine g_iload_n C dX3_remove_9 0 rfl rfl ?_
    refine g_ldc C (v := vNONE) mX3_remove_k37 dX3_remove_10 ?_
    refine g_icmp_ne C (tgt := 18) dX3_remove_12 (by decide) (fun c3 => ?_) (fun c3 => ?_)
    · skip
      refine g_aload_n C dX3_remove_18 1 rfl rfl ?_
      refine g_get C 0 (f := 2) (v := .ref (j 0)) (Cn := RX3) (T := TX3) (N := 5) dX3_remove_19 rfl rfl iX3_remove_X3 (by decide) mX3_remove_f27 rfl ?_
      refine g_callIV C [17, 18, 19, 20, 21] [0, 1, 2, 3, 4, 5, 6, 7, 8, 9, 10, 11, 12, 13, 14, 15, 16, 22, 23, 24] [0, 1, 2, 3, 4, 5, 6, 7, 8, 9, 10, 11, 12, 13, 14, 15, 16, 20, 21, 22, 23, 24, 17, 18, 19] 0 1 (b := j 0) rfl rfl (As := []) (rest := []) (wr := (wB b (g 0) (h 0) (j 0) B ++ (wG cy g (z 0) P ++ (wG cy h (z 0) O ++ (wZ cy z Z))))) (wf := fun _ => (wB b (g 0) (h 0) (j 0) B ++ (wG cy g (z 0) P ++ (wG cy h (z 0) O ++ (wJ cy j J ++ (wZ cy z Z)))))) dX3_remove_22 gX3_remove_X1_isFull rfl dmX1_isFull ⟨rfl, rfl, Nat.le_of_ble_eq_true rfl, Nat.le_of_ble_eq_true rfl, Nat.zero_le _, Nat.zero_le _⟩ (c_X1_isFull l D cy cz j J) ⟨rfl, rfl, rfl, rfl, by decide, rfl, fun _ => rfl⟩ (Nat.le_of_ble_eq_true rfl) ?_
      rintro _ - rfl
      show G x l (rmF 6 216) D 4 0 0 (wB b (g 0) (h 0) (j 0) B ++ (wG cy g (z 0) P ++ (wG cy h (z 0) O ++ (wJ cy j J ++ (wZ cy z Z))))) [(2, .int (nI c)), (0, .ref (b 0)), (1, .int k)] [.int (if 64 ≤ J 0 0 then 1 else 0)] 25
      refine g_top (b := if 64 ≤ T.w.length then 1 else 0) (full_eq hx.2.2.2.2.1) ?_
      refine g_if_eq C (tgt := 31) dX3_remove_25 (by decide) (fun c5 => ?_) (fun c5 => ?_)
      · skip
        have hl : T.w.length < 64 := Nat.lt_of_not_le (fun w => by rw [if_pos w] at c5; exact absurd c5 (by decide))
        refine g_aload_n C dX3_remove_31 1 rfl rfl ?_
        refine g_get C 0 (f := 0) (v := .ref (g 0)) (Cn := RX3) (T := TX3) (N := 5) dX3_remove_32 rfl rfl iX3_remove_X3 (by decide) mX3_remove_f17 rfl ?_
        refine g_iload_n C dX3_remove_35 0 rfl rfl ?_
        refine g_callIV C [1, 2, 3, 4, 5, 6, 7, 8] [0, 9, 10, 11, 12, 13, 14, 15, 16, 17, 18, 19, 20, 21, 22, 23, 24] [0, 17, 18, 19, 20, 21, 22, 23, 24, 1, 2, 3, 4, 5, 6, 7, 8, 9, 10, 11, 12, 13, 14, 15, 16] 0 2 (b := g 0) rfl rfl (As := [.int (nI c)]) (rest := []) (wr := (wB b (g 0) (h 0) (j 0) B ++ (wG cy h (z 0) O ++ (wJ cy j J ++ (wZ cy z Z))))) (wf := fun _ => (wB b (g 0) (h 0) (j 0) B ++ (wG cy g (z 0) P ++ (wG cy h (z 0) O ++ (wJ cy j J ++ (wZ cy z Z)))))) dX3_remove_36 gX3_remove_X2_valueIn rfl dmX2_valueIn ⟨rfl, rfl, Nat.le_of_ble_eq_true rfl, Nat.le_of_ble_eq_true rfl, Nat.zero_le _, Nat.zero_le _⟩ (c_X2_valueIn l D cy cz g (z 0) P c hc5) ⟨rfl, rfl, rfl, rfl, by decide, rfl, fun _ => rfl⟩ (Nat.le_of_ble_eq_true rfl) ?_
        rintro _ - rfl
        show G x l (rmF 6 216) D 4 0 0 (wB b (g 0) (h 0) (j 0) B ++ (wG cy g (z 0) P ++ (wG cy h (z 0) O ++ (wJ cy j J ++ (wZ cy z Z))))) [(2, .int (nI c)), (0, .ref (b 0)), (1, .int k)] [.int (P 2 c)] 39
        refine g_top (b := T.A.vs c) (hvc) ?_
        refine g_istore_n C (lv' := [(3, .int (T.A.vs c)), (2, .int (nI c)), (0, .ref (b 0)), (1, .int k)]) dX3_remove_39 rfl (by decide) rfl ?_
        refine g_aload_n C dX3_remove_40 2 rfl rfl ?_
        refine g_iconst C (v := 1) dX3_remove_41 (by decide) ?_
        refine g_iload_n C dX3_remove_42 3 rfl rfl ?_
        refine g_iload_n C dX3_remove_43 0 rfl rfl ?_
        refine g_callVV C [0, 1, 2, 3, 4, 5, 6, 7, 8, 17, 18, 19, 20, 21, 22, 23, 24] [9, 10, 11, 12, 13, 14, 15, 16] [8, 9, 10, 11, 12, 13, 14, 15, 16, 0, 1, 2, 3, 4, 5, 6, 7, 17, 18, 19, 20, 21, 22, 23, 24] 0 3 (b := b 0) rfl rfl (As := [.int 1, .int k, .int (T.A.vs c)]) (rest := []) (wr := (wG cy h (z 0) O)) (wf := fun u1 => (wB b (g 0) (h 0) (j 0) u1.1 ++ (wG cy g (z 0) u1.2.1 ++ (wG cy h (z 0) O ++ (wJ cy j u1.2.2.1 ++ (wZ cy z u1.2.2.2)))))) dX3_remove_44 gX3_remove_X3_write rfl dmX3_write ⟨rfl, rfl, Nat.le_of_ble_eq_true rfl, Nat.le_of_ble_eq_true rfl, Nat.zero_le _, Nat.zero_le _⟩ (c_X3_write_rem l D cy cz b g h j z B P J Z T.A T.w T.gs T.op k (T.A.vs c) hx.1 hx.2.2.2.2.1 hl) ⟨rfl, rfl, rfl, rfl, by decide, rfl, fun _ => rfl⟩ (Nat.le_of_ble_eq_true rfl) ?_
        intro u1 hp1
        show G x l (rmF 6 216) D 4 0 0 (wB b (g 0) (h 0) (j 0) u1.1 ++ (wG cy g (z 0) u1.2.1 ++ (wG cy h (z 0) O ++ (wJ cy j u1.2.2.1 ++ (wZ cy z u1.2.2.2))))) [(3, .int (T.A.vs c)), (2, .int (nI c)), (0, .ref (b 0)), (1, .int k)] [] 47
        obtain ⟨y1, y2, y3, y4, y5⟩ := hp1
        rw [show P 0 2 = T.E from hx.2.1] at y1 y2
        have hN : RX (T.note (k, none)) (u1.1, u1.2.1, O, u1.2.2.1, u1.2.2.2) := RX_note hx y1 y2 y3 y4 y5 (fun w => by rw [show T.A.fnd k = some c from hf] at w; cases w)
        refine g_iload_n C dX3_remove_47 0 rfl rfl ?_
        exact ret _ (u1.1, u1.2.1, O, u1.2.2.1, u1.2.2.2) _ _ dX3_remove_48 (by unfold aRem; rw [hf]; show _ = (if _ then _ else _ : Int32 × TS).1 ∧ RX (if _ then _ else _ : Int32 × TS).2 _; rw [if_neg (by omega)]; exact ⟨rfl, hN⟩)
      · skip
        have hl : 64 ≤ T.w.length := Decidable.byContradiction (fun w => c5 (if_neg w))
        refine g_ldc C (v := (-2000000004)) mX3_remove_k47 dX3_remove_28 ?_
        exact ret _ (B, P, O, J, Z) _ _ dX3_remove_30 (by unfold aRem; rw [hf]; show _ = (if _ then _ else _ : Int32 × TS).1 ∧ RX (if _ then _ else _ : Int32 × TS).2 _; rw [if_pos hl]; exact ⟨rfl, hx⟩)
    · skip
      exact absurd c3 (NONE_nI (by omega))

theorem mX3_get_f17 : Cond.fieldLink RX3 17 (TX3 0).1 (TX3 0).2.1 (TX3 0).2.2.1 ∈ wsX3_get := List.mem_of_getElem? (i := 1) rfl
theorem iX3_get_X3 : ∀ w ∈ wsX30, w ∈ wsX3_get := by decide +kernel
theorem mX3_get_f55 : Cond.fieldLink RX3 55 (TX3 3).1 (TX3 3).2.1 (TX3 3).2.2.1 ∈ wsX3_get := List.mem_of_getElem? (i := 2) rfl
theorem mX3_get_k37 : Cond.constant RX3 37 (-2000000005) ∈ wsX3_get := List.mem_of_getElem? (i := 3) rfl
set_option maxHeartbeats 1600000 in
set_option maxRecDepth 20000 in
theorem c_X3_get (l : Launch) (D : va_G) (cy cz : ClassId) (b : Nat → Nat) (g : Nat → Nat) (h : Nat → Nat) (j : Nat → Nat) (z : Nat → Nat) (B : Mem) (P : Mem) (O : Mem) (J : Mem) (Z : Mem) (T : TS) (k : Int32) (hx : RX T (B, P, O, J, Z)) : MI l yX3_get wsX3_get (rmF 2 72) D (tyL cy cz) [.ref (b 0), .int k] (wB b (g 0) (h 0) (j 0) B ++ (wG cy g (z 0) P ++ (wG cy h (z 0) O ++ (wJ cy j J ++ (wZ cy z Z))))) (fun (r : Int32) (u : M5) => r = (aGet T k).1 ∧ RX (aGet T k).2 u) (fun u => (wB b (g 0) (h 0) (j 0) u.1 ++ (wG cy g (z 0) u.2.1 ++ (wG cy h (z 0) u.2.2.1 ++ (wJ cy j u.2.2.2.1 ++ (wZ cy z u.2.2.2.2)))))) := by
  refine g_entI (cc := cX3_get) (maxL := 3) (own := RX3) (by decide) rfl rfl (Nat.le_of_ble_eq_true rfl) (fun x C ret => ?_)
  show G x l (rmF 2 72) D 3 0 0 (wB b (g 0) (h 0) (j 0) B ++ (wG cy g (z 0) P ++ (wG cy h (z 0) O ++ (wJ cy j J ++ (wZ cy z Z))))) [(0, .ref (b 0)), (1, .int k)] [] 0
  refine g_aload_n C dX3_get_0 0 rfl rfl ?_
  refine g_get C 0 (f := 0) (v := .ref (g 0)) (Cn := RX3) (T := TX3) (N := 5) dX3_get_1 rfl rfl iX3_get_X3 (by decide) mX3_get_f17 rfl ?_
  refine g_iload_n C dX3_get_4 1 rfl rfl ?_
  refine g_callIV C [1, 2, 3, 4, 5, 6, 7, 8] [0, 9, 10, 11, 12, 13, 14, 15, 16, 17, 18, 19, 20, 21, 22, 23, 24] [0, 17, 18, 19, 20, 21, 22, 23, 24, 1, 2, 3, 4, 5, 6, 7, 8, 9, 10, 11, 12, 13, 14, 15, 16] 0 2 (b := g 0) rfl rfl (As := [.int k]) (rest := []) (wr := (wB b (g 0) (h 0) (j 0) B ++ (wG cy h (z 0) O ++ (wJ cy j J ++ (wZ cy z Z))))) (wf := fun _ => (wB b (g 0) (h 0) (j 0) B ++ (wG cy g (z 0) P ++ (wG cy h (z 0) O ++ (wJ cy j J ++ (wZ cy z Z)))))) dX3_get_5 gX3_get_X2_find rfl dmX2_find ⟨rfl, rfl, Nat.le_of_ble_eq_true rfl, Nat.le_of_ble_eq_true rfl, Nat.zero_le _, Nat.zero_le _⟩ (c_X2_find l D cy cz g (z 0) P T.A k hx.1) ⟨rfl, rfl, rfl, rfl, by decide, rfl, fun _ => rfl⟩ (Nat.le_of_ble_eq_true rfl) ?_
  rintro _ - rfl
  show G x l (rmF 2 72) D 3 0 0 (wB b (g 0) (h 0) (j 0) B ++ (wG cy g (z 0) P ++ (wG cy h (z 0) O ++ (wJ cy j J ++ (wZ cy z Z))))) [(0, .ref (b 0)), (1, .int k)] [.int (ocI (T.A.fnd k))] 8
  refine g_istore_n C (lv' := [(2, .int (ocI (T.A.fnd k))), (0, .ref (b 0)), (1, .int k)]) dX3_get_8 rfl (by decide) rfl ?_
  refine g_aload_n C dX3_get_9 1 rfl rfl ?_
  refine g_dup C dX3_get_10 rfl ?_
  refine g_get C 0 (f := 3) (v := .int (B 0 0)) (Cn := RX3) (T := TX3) (N := 5) dX3_get_11 rfl rfl iX3_get_X3 (by decide) mX3_get_f55 rfl ?_
  refine g_top (b := T.rd) (hx.2.2.2.2.2.1) ?_
  refine g_aload_n C dX3_get_14 1 rfl rfl ?_
  refine g_get C 0 (f := 0) (v := .ref (g 0)) (Cn := RX3) (T := TX3) (N := 5) dX3_get_15 rfl rfl iX3_get_X3 (by decide) mX3_get_f17 rfl ?_
  refine g_iload_n C dX3_get_18 2 rfl rfl ?_
  refine g_iload_n C dX3_get_19 0 rfl rfl ?_
  refine g_callIV C [1, 2, 3, 4, 5, 6, 7, 8] [0, 9, 10, 11, 12, 13, 14, 15, 16, 17, 18, 19, 20, 21, 22, 23, 24] [0, 17, 18, 19, 20, 21, 22, 23, 24, 1, 2, 3, 4, 5, 6, 7, 8, 9, 10, 11, 12, 13, 14, 15, 16] 0 2 (b := g 0) rfl rfl (As := [.int k, .int (ocI (T.A.fnd k))]) (rest := [.int T.rd, .ref (b 0)]) (wr := (wB b (g 0) (h 0) (j 0) B ++ (wG cy h (z 0) O ++ (wJ cy j J ++ (wZ cy z Z))))) (wf := fun _ => (wB b (g 0) (h 0) (j 0) B ++ (wG cy g (z 0) P ++ (wG cy h (z 0) O ++ (wJ cy j J ++ (wZ cy z Z)))))) dX3_get_20 gX3_get_X2_pagesLookedAt rfl dmX2_pagesLookedAt ⟨rfl, rfl, Nat.le_of_ble_eq_true rfl, Nat.le_of_ble_eq_true rfl, Nat.zero_le _, Nat.zero_le _⟩ (c_X2_pagesLookedAt l D cy cz g (z 0) P T.A k (T.A.fnd k) hx.1 (fun c hc => fnd_lt hx.1.1.1 hx.1.2.1 hc)) ⟨rfl, rfl, rfl, rfl, by decide, rfl, fun _ => rfl⟩ (Nat.le_of_ble_eq_true rfl) ?_
  rintro _ - rfl
  show G x l (rmF 2 72) D 3 0 0 (wB b (g 0) (h 0) (j 0) B ++ (wG cy g (z 0) P ++ (wG cy h (z 0) O ++ (wJ cy j J ++ (wZ cy z Z))))) [(2, .int (ocI (T.A.fnd k))), (0, .ref (b 0)), (1, .int k)] [.int (nI (lookL (T.A.fnd k) (T.A.ch (T.A.ad k)))), .int T.rd, .ref (b 0)] 23
  refine g_iadd C dX3_get_23 ?_
  refine g_put C 0 (f := 3) (v := .int (T.rd + (nI (lookL (T.A.fnd k) (T.A.ch (T.A.ad k)))))) (ty := .int) (Cn := RX3) (T := TX3) (N := 5) (ws' := (wB b (g 0) (h 0) (j 0) (ps B 0 0 (T.rd + (nI (lookL (T.A.fnd k) (T.A.ch (T.A.ad k)))))) ++ (wG cy g (z 0) P ++ (wG cy h (z 0) O ++ (wJ cy j J ++ (wZ cy z Z)))))) dX3_get_24 rfl rfl iX3_get_X3 tyX3 tyX3_ok nmX3 (by decide) mX3_get_f55 rfl rfl (rfl) (rfl) (Nat.le_of_ble_eq_true rfl) (set_l (Nat.le_of_ble_eq_true rfl) (wB_s0 b (g 0) (h 0) (j 0) B (T.rd + (nI (lookL (T.A.fnd k) (T.A.ch (T.A.ad k))))))) ?_
  have hN : RX (aGet T k).2 ((ps B 0 0 (T.rd + (nI (lookL (T.A.fnd k) (T.A.ch (T.A.ad k)))))), P, O, J, Z) := ⟨hx.1, hx.2.1, hx.2.2.1, hx.2.2.2.1, hx.2.2.2.2.1, rfl, hx.2.2.2.2.2.2.1, hx.2.2.2.2.2.2.2⟩
  have ha : (aGet T k).1 = match T.A.fnd k with | none => vNONE | some c => T.A.vs c := rfl
  refine g_iload_n C dX3_get_27 0 rfl rfl ?_
  refine g_ldc C (v := vNONE) mX3_get_k37 dX3_get_28 ?_
  refine g_icmp_ne C (tgt := 38) dX3_get_30 (by decide) (fun c3 => ?_) (fun c3 => ?_)
  · skip
    obtain ⟨c, hf⟩ : ∃ c, T.A.fnd k = some c := by
      cases e : T.A.fnd k with
      | none => rw [e] at c3; exact absurd rfl c3
      | some c => exact ⟨c, rfl⟩
    have hc5 : c < 512 := fnd_lt hx.1.1.1 hx.1.2.1 hf
    have hvc := hx.1.valC (hx.1.adlt k) (fnd_live hf).1
    refine g_aload_n C dX3_get_38 1 rfl rfl ?_
    refine g_get C 0 (f := 0) (v := .ref (g 0)) (Cn := RX3) (T := TX3) (N := 5) dX3_get_39 rfl rfl iX3_get_X3 (by decide) mX3_get_f17 rfl ?_
    refine g_iload_n C dX3_get_42 0 rfl rfl ?_
    refine g_top (b := nI c) (by rw [hf]; rfl) ?_
    refine g_callIV C [1, 2, 3, 4, 5, 6, 7, 8] [0, 9, 10, 11, 12, 13, 14, 15, 16, 17, 18, 19, 20, 21, 22, 23, 24] [0, 17, 18, 19, 20, 21, 22, 23, 24, 1, 2, 3, 4, 5, 6, 7, 8, 9, 10, 11, 12, 13, 14, 15, 16] 0 2 (b := g 0) rfl rfl (As := [.int (nI c)]) (rest := []) (wr := (wB b (g 0) (h 0) (j 0) (ps B 0 0 (T.rd + (nI (lookL (T.A.fnd k) (T.A.ch (T.A.ad k)))))) ++ (wG cy h (z 0) O ++ (wJ cy j J ++ (wZ cy z Z))))) (wf := fun _ => (wB b (g 0) (h 0) (j 0) (ps B 0 0 (T.rd + (nI (lookL (T.A.fnd k) (T.A.ch (T.A.ad k)))))) ++ (wG cy g (z 0) P ++ (wG cy h (z 0) O ++ (wJ cy j J ++ (wZ cy z Z)))))) dX3_get_43 gX3_get_X2_valueIn rfl dmX2_valueIn ⟨rfl, rfl, Nat.le_of_ble_eq_true rfl, Nat.le_of_ble_eq_true rfl, Nat.zero_le _, Nat.zero_le _⟩ (c_X2_valueIn l D cy cz g (z 0) P c hc5) ⟨rfl, rfl, rfl, rfl, by decide, rfl, fun _ => rfl⟩ (Nat.le_of_ble_eq_true rfl) ?_
    rintro _ - rfl
    show G x l (rmF 2 72) D 3 0 0 (wB b (g 0) (h 0) (j 0) (ps B 0 0 (T.rd + (nI (lookL (T.A.fnd k) (T.A.ch (T.A.ad k)))))) ++ (wG cy g (z 0) P ++ (wG cy h (z 0) O ++ (wJ cy j J ++ (wZ cy z Z))))) [(2, .int (ocI (T.A.fnd k))), (0, .ref (b 0)), (1, .int k)] [.int (P 2 c)] 46
    refine g_top (b := T.A.vs c) (hvc) ?_
    exact ret _ ((ps B 0 0 (T.rd + (nI (lookL (T.A.fnd k) (T.A.ch (T.A.ad k)))))), P, O, J, Z) _ _ dX3_get_46 (⟨by rw [ha, hf], hN⟩)
  · skip
    have hf : T.A.fnd k = none := ocI_none (fun q hq => by have := fnd_lt hx.1.1.1 hx.1.2.1 hq; omega) c3
    refine g_ldc C (v := vNONE) mX3_get_k37 dX3_get_33 ?_
    refine g_goto C (tgt := 46) dX3_get_35 (by decide) ?_
    exact ret _ ((ps B 0 0 (T.rd + (nI (lookL (T.A.fnd k) (T.A.ch (T.A.ad k)))))), P, O, J, Z) _ _ dX3_get_46 (⟨by rw [ha, hf], hN⟩)
