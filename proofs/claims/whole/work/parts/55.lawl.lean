/-! the law: its loop, its walk -/
set_option maxHeartbeats 1600000 in
set_option maxRecDepth 20000 in
theorem law_loop {x : GX} {l : Launch} {D : va_G} {cy cz : ClassId} {b g h j z m : Nat → Nat} {bb L : Nat} {xs : Nat → Int32} (hL : L ≤ 2048) (C : Cx x D (tyL cy cz) cL_law 4 wsL_law RL) (S : gScr x bb L xs) (fin : ∀ (ws : va_W) (lv : List (Nat × Value)), G x l room_1 D 4 36 14938 ws lv [] 459) (a : Nat × TS × M5 × Mem) (ha : 4 * a.1 ≤ L ∧ RX a.2.1 a.2.2.1 ∧ RY a.2.1 a.2.2.2 ∧ a.2.1.log.length ≤ a.1) : G x l room_1 D 4 36 14938 (LWd cy cz b g h j z m a.2.2.1 a.2.2.2) (lvL bb b m (4 * a.1)) [] 18 := by
  refine g_loop (σ := Nat × TS × M5 × Mem) (fun a => LWd cy cz b g h j z m a.2.2.1 a.2.2.2) (fun a => lvL bb b m (4 * a.1)) (fun a => 4 * a.1 ≤ L ∧ RX a.2.1 a.2.2.1 ∧ RY a.2.1 a.2.2.2 ∧ a.2.1.log.length ≤ a.1) (fun a => L - 4 * a.1) ?_ a ha
  rintro ⟨q, T, u, M⟩ hI ih
  obtain ⟨i1, hx, hy, i4⟩ : 4 * q ≤ L ∧ RX T u ∧ RY T M ∧ T.log.length ≤ q := hI
  show G x l room_1 D 4 36 14938 (LWd cy cz b g h j z m u M) (lvL bb b m (4 * q)) [] 18
  refine g_iload_n C dL_law_18 0 rfl rfl ?_
  refine g_aload_n C dL_law_19 3 rfl rfl ?_
  refine g_slen C S dL_law_20 ?_
  refine g_iconst C (v := 4) dL_law_21 (by decide) ?_
  refine g_isub C dL_law_22 ?_
  refine g_icmp_gt C (tgt := 459) dL_law_23 (by decide) (fun _ => fin _ _) (fun c1 => ?_)
  have h4 : 4 * q + 4 ≤ L := law_le hL (by omega) c1
  have tail : lwTail x l D cy cz b g h j z m bb q := by
    intro T' u' M' h1 h2 h3
    refine g_iinc C (q := 0) (v := nI (4 * (q + 1))) (lv' := lvL bb b m (4 * (q + 1))) dL_law_453 rfl ?_ (by decide) rfl ?_
    · rw [show 4 * (q + 1) = 4 * q + 4 by omega]
      exact nI_add (4 * q) 4
    · refine g_goto C (tgt := 18) dL_law_456 (by decide) ?_
      exact ih (q + 1, T', u', M') ⟨by show 4 * (q + 1) ≤ L; omega, h1, h2, h3⟩ (by show L - 4 * (q + 1) < L - 4 * q; omega)
  refine g_aload_n C dL_law_26 3 rfl rfl ?_
  refine g_iload_n C dL_law_27 0 rfl rfl ?_
  refine g_sld C S (4 * q) rfl (by omega) (by omega) dL_law_28 ?_
  refine g_bipush C (v := 15) dL_law_29 (by decide) ?_
  refine g_iand C dL_law_31 ?_
  obtain ⟨y, hy4, ey⟩ := pk_andE (xs (4 * q)) (m := 15) 4 (by decide)
  rw [ey]
  rcases sw_15 hy4 with rfl | rfl | rfl | rfl | rfl | rfl | rfl | rfl | rfl | rfl | rfl | rfl | rfl | rfl | rfl | rfl
  · exact g_tabIn C (tgt := 108) dL_law_32 (by decide) (by decide) (off := 76) rfl (by decide) (law_0 hL C S h4 hx hy i4 tail)
  · exact g_tabIn C (tgt := 141) dL_law_32 (by decide) (by decide) (off := 109) rfl (by decide) (law_1 hL C S h4 hx hy i4 tail)
  · exact g_tabIn C (tgt := 164) dL_law_32 (by decide) (by decide) (off := 132) rfl (by decide) (law_2 hL C S h4 hx hy i4 tail)
  · exact g_tabIn C (tgt := 187) dL_law_32 (by decide) (by decide) (off := 155) rfl (by decide) (law_3 hL C S h4 hx hy i4 tail)
  · exact g_tabIn C (tgt := 200) dL_law_32 (by decide) (by decide) (off := 168) rfl (by decide) (law_4 hL C S h4 hx hy i4 tail)
  · exact g_tabIn C (tgt := 213) dL_law_32 (by decide) (by decide) (off := 181) rfl (by decide) (law_5 hL C S h4 hx hy i4 tail)
  · exact g_tabIn C (tgt := 226) dL_law_32 (by decide) (by decide) (off := 194) rfl (by decide) (law_6 hL C S h4 hx hy i4 tail)
  · exact g_tabIn C (tgt := 239) dL_law_32 (by decide) (by decide) (off := 207) rfl (by decide) (law_7 hL C S h4 hx hy i4 tail)
  · exact g_tabIn C (tgt := 262) dL_law_32 (by decide) (by decide) (off := 230) rfl (by decide) (law_8 hL C S h4 hx hy i4 tail)
  · exact g_tabIn C (tgt := 285) dL_law_32 (by decide) (by decide) (off := 253) rfl (by decide) (law_9 hL C S h4 hx hy i4 tail)
  · exact g_tabIn C (tgt := 318) dL_law_32 (by decide) (by decide) (off := 286) rfl (by decide) (law_10 hL C S h4 hx hy i4 tail)
  · exact g_tabIn C (tgt := 351) dL_law_32 (by decide) (by decide) (off := 319) rfl (by decide) (law_11 hL C S h4 hx hy i4 tail)
  · exact g_tabIn C (tgt := 394) dL_law_32 (by decide) (by decide) (off := 362) rfl (by decide) (law_12 hL C S h4 hx hy i4 tail)
  · exact g_tabIn C (tgt := 417) dL_law_32 (by decide) (by decide) (off := 385) rfl (by decide) (law_13 hL C S h4 hx hy i4 tail)
  · exact g_tabIn C (tgt := 430) dL_law_32 (by decide) (by decide) (off := 398) rfl (by decide) (law_14 hL C S h4 hx hy i4 tail)
  · exact g_tabOut C (tgt := 453) dL_law_32 (Or.inr (by decide)) (by decide) (tail _ _ _ hx hy (Nat.le_succ_of_le i4))
set_option maxHeartbeats 1600000 in
set_option maxRecDepth 20000 in
/-- the law from its entry -/
theorem law_walk {x : GX} {l : Launch} {D : va_G} {cy cz : ClassId} {bb L : Nat} {xs : Nat → Int32} (hL : L ≤ 2048) (C : Cx x D (tyL cy cz) cL_law 4 wsL_law RL) (S : gScr x bb L xs) (fin : ∀ (ws : va_W) (lv : List (Nat × Value)), G x l room_1 D 4 36 14938 ws lv [] 459) : G x l room_1 D 4 0 0 [] [(0, .ref bb)] [] 0 := by
  refine g_new C (Cn := RX3) (T := TX3) (N := 5) (ci := 3) (fs := [.null, .null, .null, .int 0, .int 0]) dL_law_0 inlX3 tyX3 tyX3_ok (List.mem_of_getElem? (i := 0) rfl) (List.mem_of_getElem? (i := 1) rfl) (List.mem_of_getElem? (i := 2) rfl) rfl (fun j hj => by rcases (show j = 0 ∨ j = 1 ∨ j = 2 ∨ j = 3 ∨ j = 4 by omega) with rfl | rfl | rfl | rfl | rfl <;> rfl) (Nat.le_of_ble_eq_true rfl) (Nat.le_of_ble_eq_true rfl) (fun q => ?_)
  show G x l room_1 D 4 1 5 [(q, .inr (3, [.null, .null, .null, .int 0, .int 0]))] [(0, .ref bb)] [.ref q] 3
  refine g_dup C dL_law_3 rfl ?_
  refine g_callC C [0] [] [0, 1, 2, 3, 4, 5, 6, 7, 8, 9, 10, 11, 12, 13, 14, 15, 16, 17, 18, 19, 20, 21, 22, 23, 24] (As := []) (rest := [.ref q]) (b := q) (wr := []) (wf := fun u : (Nat → Nat) × (Nat → Nat) × (Nat → Nat) × (Nat → Nat) × (Nat → Nat) × M5 => W5d cy u.1 u.2.1 u.2.2.1 u.2.2.2.1 u.2.2.2.2.1 u.2.2.2.2.2) dL_law_4 gL_law_X3_init rfl dmX3_init rfl (List.mem_of_getElem? (i := 2) rfl) (List.mem_of_getElem? (i := 6) rfl) (List.mem_of_getElem? (i := 7) rfl) ⟨rfl, rfl, (Nat.le_of_ble_eq_true rfl), (Nat.le_of_ble_eq_true rfl), (Nat.le_of_ble_eq_true rfl), (Nat.le_of_ble_eq_true rfl)⟩ (c_X3_init l D cy cz q) ⟨rfl, rfl, rfl, rfl, by decide, rfl, fun _ => rfl⟩ (Nat.le_of_ble_eq_true rfl) ?_
  rintro ⟨b, g, h, j, z, u⟩ ⟨e0, hx⟩
  have e0 : b 0 = q := e0
  subst e0
  show G x l room_1 D 4 25 4022 (W5d cy b g h j z u) [(0, .ref bb)] [.ref (b 0)] 7
  refine g_astore_n C (lv' := [(1, .ref (b 0)), (0, .ref bb)]) dL_law_7 rfl (by decide) rfl ?_
  refine g_new C (Cn := RX4) (T := TX4) (N := 20) (ci := 4) (fs := [.null, .null, .null, .null, .null, .int 0, .int 0, .int 0, .null, .null, .int 0, .int 0, .null, .int 0, .int 0, .int 0, .int 0, .null, .null, .int 0]) dL_law_8 inlX4 tyX4 tyX4_ok (List.mem_of_getElem? (i := 3) rfl) (List.mem_of_getElem? (i := 4) rfl) (List.mem_of_getElem? (i := 5) rfl) rfl (fun j hj => by rcases (show j = 0 ∨ j = 1 ∨ j = 2 ∨ j = 3 ∨ j = 4 ∨ j = 5 ∨ j = 6 ∨ j = 7 ∨ j = 8 ∨ j = 9 ∨ j = 10 ∨ j = 11 ∨ j = 12 ∨ j = 13 ∨ j = 14 ∨ j = 15 ∨ j = 16 ∨ j = 17 ∨ j = 18 ∨ j = 19 by omega) with rfl | rfl | rfl | rfl | rfl | rfl | rfl | rfl | rfl | rfl | rfl | rfl | rfl | rfl | rfl | rfl | rfl | rfl | rfl | rfl <;> rfl) (Nat.le_of_ble_eq_true rfl) (Nat.le_of_ble_eq_true rfl) (fun q => ?_)
  show G x l room_1 D 4 26 4042 (W5d cy b g h j z u ++ [(q, .inr (4, [.null, .null, .null, .null, .null, .int 0, .int 0, .int 0, .null, .null, .int 0, .int 0, .null, .int 0, .int 0, .int 0, .int 0, .null, .null, .int 0]))]) [(1, .ref (b 0)), (0, .ref bb)] [.ref q] 11
  refine g_dup C dL_law_11 rfl ?_
  refine g_callC C [25] [0, 1, 2, 3, 4, 5, 6, 7, 8, 9, 10, 11, 12, 13, 14, 15, 16, 17, 18, 19, 20, 21, 22, 23, 24] [0, 1, 2, 3, 4, 5, 6, 7, 8, 9, 10, 11, 12, 13, 14, 15, 16, 17, 18, 19, 20, 21, 22, 23, 24, 25, 26, 27, 28, 29, 30, 31, 32, 33, 34, 35] (As := []) (rest := [.ref q]) (b := q) (wr := W5d cy b g h j z u) (wf := fun v : (Nat → Nat) × Mem => LWd cy cz b g h j z v.1 u v.2) dL_law_12 gL_law_X4_init rfl dmX4_init rfl (List.mem_of_getElem? (i := 5) rfl) (List.mem_of_getElem? (i := 54) rfl) (List.mem_of_getElem? (i := 55) rfl) ⟨rfl, rfl, (Nat.le_of_ble_eq_true rfl), (Nat.le_of_ble_eq_true rfl), (Nat.le_of_ble_eq_true rfl), (Nat.le_of_ble_eq_true rfl)⟩ (c_X4_init l D cy cz q) ⟨rfl, rfl, rfl, rfl, by decide, rfl, fun _ => rfl⟩ (Nat.le_of_ble_eq_true rfl) ?_
  rintro ⟨m, M⟩ ⟨e1, hy⟩
  have e1 : m 0 = q := e1
  subst e1
  show G x l room_1 D 4 36 14938 (LWd cy cz b g h j z m u M) [(1, .ref (b 0)), (0, .ref bb)] [.ref (m 0)] 15
  refine g_astore_n C (lv' := [(2, .ref (m 0)), (1, .ref (b 0)), (0, .ref bb)]) dL_law_15 rfl (by decide) rfl ?_
  refine g_iconst C (v := nI (4 * 0)) dL_law_16 (by decide) ?_
  refine g_istore_n C (lv' := lvL bb b m (4 * 0)) dL_law_17 rfl (by decide) rfl ?_
  exact law_loop hL C S fin (0, T0, u, M) ⟨Nat.zero_le _, hx, hy, Nat.zero_le _⟩
