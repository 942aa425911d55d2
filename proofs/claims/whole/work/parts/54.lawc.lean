/-! the law's fifteen arms: both answer the same -/
section LA
variable {x : GX} {l : Launch} {D : va_G} {cy cz : ClassId} {b g h j z m : Nat → Nat} {bb L : Nat} {xs : Nat → Int32} {q : Nat} {T : TS} {u : M5} {M : Mem}
abbrev lwTail (x : GX) (l : Launch) (D : va_G) (cy cz : ClassId) (b g h j z m : Nat → Nat) (bb q : Nat) : Prop := ∀ (T' : TS) (u' : M5) (M' : Mem), RX T' u' → RY T' M' → T'.log.length ≤ q + 1 → G x l room_1 D 4 36 14938 (LWd cy cz b g h j z m u' M') (lvL bb b m (4 * q)) [] 453
set_option maxHeartbeats 1600000 in
set_option maxRecDepth 20000 in
theorem law_0 (hL : L ≤ 2048) (C : Cx x D (tyL cy cz) cL_law 4 wsL_law RL) (S : gScr x bb L xs) (h4 : 4 * q + 4 ≤ L) (hx : RX T u) (hy : RY T M) (hN : T.log.length ≤ q) (tail : lwTail x l D cy cz b g h j z m bb q) : G x l room_1 D 4 36 14938 (LWd cy cz b g h j z m u M) (lvL bb b m (4 * q)) [] 108 := by
  obtain ⟨B, P, O, J, Z⟩ := u
  refine g_aload_n C dL_law_108 2 rfl rfl ?_
  refine g_gets C S (4 * q) 1 (by decide) rfl rfl (by omega) hL dL_law_109 dL_law_110 dL_law_111 dL_law_112 dL_law_113 ?_
  refine g_gets C S (4 * q) 2 (by decide) rfl rfl (by omega) hL dL_law_114 dL_law_115 dL_law_116 dL_law_117 dL_law_118 ?_
  refine g_callIV C [0, 1, 2, 3, 4, 5, 6, 7, 8, 9, 10, 11, 12, 13, 14, 15, 16, 17, 18, 19, 20, 21, 22, 23, 24] [25, 26, 27, 28, 29, 30, 31, 32, 33, 34, 35] [11, 12, 13, 14, 15, 16, 17, 18, 19, 20, 21, 22, 23, 24, 25, 26, 27, 28, 29, 30, 31, 32, 33, 34, 35, 0, 1, 2, 3, 4, 5, 6, 7, 8, 9, 10] 0 3 (b := b 0) rfl rfl (As := [.int (xs (4 * q + 1)), .int (xs (4 * q + 2))]) (rest := []) (wr := wM cy cz m M) (wf := fun u => LWd cy cz b g h j z m u M) dL_law_119 gL_law_X3_put rfl dmX3_put ⟨rfl, rfl, (Nat.le_of_ble_eq_true rfl), (Nat.le_of_ble_eq_true rfl), (Nat.le_of_ble_eq_true rfl), (Nat.le_of_ble_eq_true rfl)⟩ (c_X3_put l D cy cz b g h j z B P O J Z T (xs (4 * q + 1)) (xs (4 * q + 2)) hx) ⟨rfl, rfl, rfl, rfl, by decide, rfl, fun _ => rfl⟩ (Nat.le_of_ble_eq_true rfl) ?_
  rintro r1 u1 ⟨e1, hx1⟩
  show G x l room_1 D 4 36 14938 (LWd cy cz b g h j z m u1 M) (lvL bb b m (4 * q)) [.int r1] 122
  refine g_aload_n C dL_law_122 1 rfl rfl ?_
  refine g_gets C S (4 * q) 1 (by decide) rfl rfl (by omega) hL dL_law_123 dL_law_124 dL_law_125 dL_law_126 dL_law_127 ?_
  refine g_gets C S (4 * q) 2 (by decide) rfl rfl (by omega) hL dL_law_128 dL_law_129 dL_law_130 dL_law_131 dL_law_132 ?_
  refine g_callIV C [25, 26, 27, 28, 29, 30, 31, 32, 33, 34, 35] [0, 1, 2, 3, 4, 5, 6, 7, 8, 9, 10, 11, 12, 13, 14, 15, 16, 17, 18, 19, 20, 21, 22, 23, 24] [0, 1, 2, 3, 4, 5, 6, 7, 8, 9, 10, 11, 12, 13, 14, 15, 16, 17, 18, 19, 20, 21, 22, 23, 24, 25, 26, 27, 28, 29, 30, 31, 32, 33, 34, 35] 0 4 (b := m 0) rfl rfl (As := [.int (xs (4 * q + 1)), .int (xs (4 * q + 2))]) (rest := [.int r1]) (wr := W5d cy b g h j z u1) (wf := fun M1 => LWd cy cz b g h j z m u1 M1) dL_law_133 gL_law_X4_put rfl dmX4_put ⟨rfl, rfl, (Nat.le_of_ble_eq_true rfl), (Nat.le_of_ble_eq_true rfl), (Nat.le_of_ble_eq_true rfl), (Nat.le_of_ble_eq_true rfl)⟩ (c_X4_put l D cy cz m M T (xs (4 * q + 1)) (xs (4 * q + 2)) hy (by omega)) ⟨rfl, rfl, rfl, rfl, by decide, rfl, fun _ => rfl⟩ (Nat.le_of_ble_eq_true rfl) ?_
  rintro r2 M1 ⟨e2, hy1⟩
  show G x l room_1 D 4 36 14938 (LWd cy cz b g h j z m u1 M1) (lvL bb b m (4 * q)) [.int r2, .int r1] 136
  exact g_icmp_eq C (tgt := 453) dL_law_136 (by decide) (fun _ => tail _ _ _ hx1 hy1 (Nat.le_trans (len_put T _ _) (by omega))) (fun ne => absurd (e1.trans e2.symm) ne)
set_option maxHeartbeats 1600000 in
set_option maxRecDepth 20000 in
theorem law_1 (hL : L ≤ 2048) (C : Cx x D (tyL cy cz) cL_law 4 wsL_law RL) (S : gScr x bb L xs) (h4 : 4 * q + 4 ≤ L) (hx : RX T u) (hy : RY T M) (hN : T.log.length ≤ q) (tail : lwTail x l D cy cz b g h j z m bb q) : G x l room_1 D 4 36 14938 (LWd cy cz b g h j z m u M) (lvL bb b m (4 * q)) [] 141 := by
  obtain ⟨B, P, O, J, Z⟩ := u
  refine g_aload_n C dL_law_141 2 rfl rfl ?_
  refine g_gets C S (4 * q) 1 (by decide) rfl rfl (by omega) hL dL_law_142 dL_law_143 dL_law_144 dL_law_145 dL_law_146 ?_
  refine g_callIV C [0, 1, 2, 3, 4, 5, 6, 7, 8, 9, 10, 11, 12, 13, 14, 15, 16, 17, 18, 19, 20, 21, 22, 23, 24] [25, 26, 27, 28, 29, 30, 31, 32, 33, 34, 35] [11, 12, 13, 14, 15, 16, 17, 18, 19, 20, 21, 22, 23, 24, 25, 26, 27, 28, 29, 30, 31, 32, 33, 34, 35, 0, 1, 2, 3, 4, 5, 6, 7, 8, 9, 10] 0 3 (b := b 0) rfl rfl (As := [.int (xs (4 * q + 1))]) (rest := []) (wr := wM cy cz m M) (wf := fun u => LWd cy cz b g h j z m u M) dL_law_147 gL_law_X3_remove rfl dmX3_remove ⟨rfl, rfl, (Nat.le_of_ble_eq_true rfl), (Nat.le_of_ble_eq_true rfl), (Nat.le_of_ble_eq_true rfl), (Nat.le_of_ble_eq_true rfl)⟩ (c_X3_remove l D cy cz b g h j z B P O J Z T (xs (4 * q + 1)) hx) ⟨rfl, rfl, rfl, rfl, by decide, rfl, fun _ => rfl⟩ (Nat.le_of_ble_eq_true rfl) ?_
  rintro r1 u1 ⟨e1, hx1⟩
  show G x l room_1 D 4 36 14938 (LWd cy cz b g h j z m u1 M) (lvL bb b m (4 * q)) [.int r1] 150
  refine g_aload_n C dL_law_150 1 rfl rfl ?_
  refine g_gets C S (4 * q) 1 (by decide) rfl rfl (by omega) hL dL_law_151 dL_law_152 dL_law_153 dL_law_154 dL_law_155 ?_
  refine g_callIV C [25, 26, 27, 28, 29, 30, 31, 32, 33, 34, 35] [0, 1, 2, 3, 4, 5, 6, 7, 8, 9, 10, 11, 12, 13, 14, 15, 16, 17, 18, 19, 20, 21, 22, 23, 24] [0, 1, 2, 3, 4, 5, 6, 7, 8, 9, 10, 11, 12, 13, 14, 15, 16, 17, 18, 19, 20, 21, 22, 23, 24, 25, 26, 27, 28, 29, 30, 31, 32, 33, 34, 35] 0 4 (b := m 0) rfl rfl (As := [.int (xs (4 * q + 1))]) (rest := [.int r1]) (wr := W5d cy b g h j z u1) (wf := fun M1 => LWd cy cz b g h j z m u1 M1) dL_law_156 gL_law_X4_remove rfl dmX4_remove ⟨rfl, rfl, (Nat.le_of_ble_eq_true rfl), (Nat.le_of_ble_eq_true rfl), (Nat.le_of_ble_eq_true rfl), (Nat.le_of_ble_eq_true rfl)⟩ (c_X4_remove l D cy cz m M T (xs (4 * q + 1)) hy (by omega)) ⟨rfl, rfl, rfl, rfl, by decide, rfl, fun _ => rfl⟩ (Nat.le_of_ble_eq_true rfl) ?_
  rintro r2 M1 ⟨e2, hy1⟩
  show G x l room_1 D 4 36 14938 (LWd cy cz b g h j z m u1 M1) (lvL bb b m (4 * q)) [.int r2, .int r1] 159
  exact g_icmp_eq C (tgt := 453) dL_law_159 (by decide) (fun _ => tail _ _ _ hx1 hy1 (Nat.le_trans (len_rem T _) (by omega))) (fun ne => absurd (e1.trans e2.symm) ne)
set_option maxHeartbeats 1600000 in
set_option maxRecDepth 20000 in
theorem law_2 (hL : L ≤ 2048) (C : Cx x D (tyL cy cz) cL_law 4 wsL_law RL) (S : gScr x bb L xs) (h4 : 4 * q + 4 ≤ L) (hx : RX T u) (hy : RY T M) (hN : T.log.length ≤ q) (tail : lwTail x l D cy cz b g h j z m bb q) : G x l room_1 D 4 36 14938 (LWd cy cz b g h j z m u M) (lvL bb b m (4 * q)) [] 164 := by
  obtain ⟨B, P, O, J, Z⟩ := u
  refine g_aload_n C dL_law_164 2 rfl rfl ?_
  refine g_gets C S (4 * q) 1 (by decide) rfl rfl (by omega) hL dL_law_165 dL_law_166 dL_law_167 dL_law_168 dL_law_169 ?_
  refine g_callIV C [0, 1, 2, 3, 4, 5, 6, 7, 8, 9, 10, 11, 12, 13, 14, 15, 16, 17, 18, 19, 20, 21, 22, 23, 24] [25, 26, 27, 28, 29, 30, 31, 32, 33, 34, 35] [11, 12, 13, 14, 15, 16, 17, 18, 19, 20, 21, 22, 23, 24, 25, 26, 27, 28, 29, 30, 31, 32, 33, 34, 35, 0, 1, 2, 3, 4, 5, 6, 7, 8, 9, 10] 0 3 (b := b 0) rfl rfl (As := [.int (xs (4 * q + 1))]) (rest := []) (wr := wM cy cz m M) (wf := fun u => LWd cy cz b g h j z m u M) dL_law_170 gL_law_X3_get rfl dmX3_get ⟨rfl, rfl, (Nat.le_of_ble_eq_true rfl), (Nat.le_of_ble_eq_true rfl), (Nat.le_of_ble_eq_true rfl), (Nat.le_of_ble_eq_true rfl)⟩ (c_X3_get l D cy cz b g h j z B P O J Z T (xs (4 * q + 1)) hx) ⟨rfl, rfl, rfl, rfl, by decide, rfl, fun _ => rfl⟩ (Nat.le_of_ble_eq_true rfl) ?_
  rintro r1 u1 ⟨e1, hx1⟩
  show G x l room_1 D 4 36 14938 (LWd cy cz b g h j z m u1 M) (lvL bb b m (4 * q)) [.int r1] 173
  refine g_aload_n C dL_law_173 1 rfl rfl ?_
  refine g_gets C S (4 * q) 1 (by decide) rfl rfl (by omega) hL dL_law_174 dL_law_175 dL_law_176 dL_law_177 dL_law_178 ?_
  refine g_callIV C [25, 26, 27, 28, 29, 30, 31, 32, 33, 34, 35] [0, 1, 2, 3, 4, 5, 6, 7, 8, 9, 10, 11, 12, 13, 14, 15, 16, 17, 18, 19, 20, 21, 22, 23, 24] [0, 1, 2, 3, 4, 5, 6, 7, 8, 9, 10, 11, 12, 13, 14, 15, 16, 17, 18, 19, 20, 21, 22, 23, 24, 25, 26, 27, 28, 29, 30, 31, 32, 33, 34, 35] 0 4 (b := m 0) rfl rfl (As := [.int (xs (4 * q + 1))]) (rest := [.int r1]) (wr := W5d cy b g h j z u1) (wf := fun M1 => LWd cy cz b g h j z m u1 M1) dL_law_179 gL_law_X4_get rfl dmX4_get ⟨rfl, rfl, (Nat.le_of_ble_eq_true rfl), (Nat.le_of_ble_eq_true rfl), (Nat.le_of_ble_eq_true rfl), (Nat.le_of_ble_eq_true rfl)⟩ (c_X4_get l D cy cz m M T (xs (4 * q + 1)) hy) ⟨rfl, rfl, rfl, rfl, by decide, rfl, fun _ => rfl⟩ (Nat.le_of_ble_eq_true rfl) ?_
  rintro r2 M1 ⟨e2, hy1⟩
  show G x l room_1 D 4 36 14938 (LWd cy cz b g h j z m u1 M1) (lvL bb b m (4 * q)) [.int r2, .int r1] 182
  exact g_icmp_eq C (tgt := 453) dL_law_182 (by decide) (fun _ => tail _ _ _ hx1 hy1 (Nat.le_trans (len_get T _) (by omega))) (fun ne => absurd (e1.trans e2.symm) ne)
set_option maxHeartbeats 1600000 in
set_option maxRecDepth 20000 in
theorem law_3 (hL : L ≤ 2048) (C : Cx x D (tyL cy cz) cL_law 4 wsL_law RL) (S : gScr x bb L xs) (h4 : 4 * q + 4 ≤ L) (hx : RX T u) (hy : RY T M) (hN : T.log.length ≤ q) (tail : lwTail x l D cy cz b g h j z m bb q) : G x l room_1 D 4 36 14938 (LWd cy cz b g h j z m u M) (lvL bb b m (4 * q)) [] 187 := by
  obtain ⟨B, P, O, J, Z⟩ := u
  refine g_aload_n C dL_law_187 2 rfl rfl ?_
  refine g_callIV C [0, 1, 2, 3, 4, 5, 6, 7, 8, 9, 10, 11, 12, 13, 14, 15, 16, 17, 18, 19, 20, 21, 22, 23, 24] [25, 26, 27, 28, 29, 30, 31, 32, 33, 34, 35] [11, 12, 13, 14, 15, 16, 17, 18, 19, 20, 21, 22, 23, 24, 25, 26, 27, 28, 29, 30, 31, 32, 33, 34, 35, 0, 1, 2, 3, 4, 5, 6, 7, 8, 9, 10] 0 3 (b := b 0) rfl rfl (As := []) (rest := []) (wr := wM cy cz m M) (wf := fun u => LWd cy cz b g h j z m u M) dL_law_188 gL_law_X3_begin rfl dmX3_begin ⟨rfl, rfl, (Nat.le_of_ble_eq_true rfl), (Nat.le_of_ble_eq_true rfl), (Nat.le_of_ble_eq_true rfl), (Nat.le_of_ble_eq_true rfl)⟩ (c_X3_begin l D cy cz b g h j z B P O J Z T  hx) ⟨rfl, rfl, rfl, rfl, by decide, rfl, fun _ => rfl⟩ (Nat.le_of_ble_eq_true rfl) ?_
  rintro r1 u1 ⟨e1, hx1⟩
  show G x l room_1 D 4 36 14938 (LWd cy cz b g h j z m u1 M) (lvL bb b m (4 * q)) [.int r1] 191
  refine g_aload_n C dL_law_191 1 rfl rfl ?_
  refine g_callIV C [25, 26, 27, 28, 29, 30, 31, 32, 33, 34, 35] [0, 1, 2, 3, 4, 5, 6, 7, 8, 9, 10, 11, 12, 13, 14, 15, 16, 17, 18, 19, 20, 21, 22, 23, 24] [0, 1, 2, 3, 4, 5, 6, 7, 8, 9, 10, 11, 12, 13, 14, 15, 16, 17, 18, 19, 20, 21, 22, 23, 24, 25, 26, 27, 28, 29, 30, 31, 32, 33, 34, 35] 0 4 (b := m 0) rfl rfl (As := []) (rest := [.int r1]) (wr := W5d cy b g h j z u1) (wf := fun M1 => LWd cy cz b g h j z m u1 M1) dL_law_192 gL_law_X4_begin rfl dmX4_begin ⟨rfl, rfl, (Nat.le_of_ble_eq_true rfl), (Nat.le_of_ble_eq_true rfl), (Nat.le_of_ble_eq_true rfl), (Nat.le_of_ble_eq_true rfl)⟩ (c_X4_begin l D cy cz m M T  hy) ⟨rfl, rfl, rfl, rfl, by decide, rfl, fun _ => rfl⟩ (Nat.le_of_ble_eq_true rfl) ?_
  rintro r2 M1 ⟨e2, hy1⟩
  show G x l room_1 D 4 36 14938 (LWd cy cz b g h j z m u1 M1) (lvL bb b m (4 * q)) [.int r2, .int r1] 195
  exact g_icmp_eq C (tgt := 453) dL_law_195 (by decide) (fun _ => tail _ _ _ hx1 hy1 (Nat.le_trans (len_begin T) (by omega))) (fun ne => absurd (e1.trans e2.symm) ne)
set_option maxHeartbeats 1600000 in
set_option maxRecDepth 20000 in
theorem law_4 (hL : L ≤ 2048) (C : Cx x D (tyL cy cz) cL_law 4 wsL_law RL) (S : gScr x bb L xs) (h4 : 4 * q + 4 ≤ L) (hx : RX T u) (hy : RY T M) (hN : T.log.length ≤ q) (tail : lwTail x l D cy cz b g h j z m bb q) : G x l room_1 D 4 36 14938 (LWd cy cz b g h j z m u M) (lvL bb b m (4 * q)) [] 200 := by
  obtain ⟨B, P, O, J, Z⟩ := u
  refine g_aload_n C dL_law_200 2 rfl rfl ?_
  refine g_callIV C [0, 1, 2, 3, 4, 5, 6, 7, 8, 9, 10, 11, 12, 13, 14, 15, 16, 17, 18, 19, 20, 21, 22, 23, 24] [25, 26, 27, 28, 29, 30, 31, 32, 33, 34, 35] [11, 12, 13, 14, 15, 16, 17, 18, 19, 20, 21, 22, 23, 24, 25, 26, 27, 28, 29, 30, 31, 32, 33, 34, 35, 0, 1, 2, 3, 4, 5, 6, 7, 8, 9, 10] 0 3 (b := b 0) rfl rfl (As := []) (rest := []) (wr := wM cy cz m M) (wf := fun u => LWd cy cz b g h j z m u M) dL_law_201 gL_law_X3_end rfl dmX3_end ⟨rfl, rfl, (Nat.le_of_ble_eq_true rfl), (Nat.le_of_ble_eq_true rfl), (Nat.le_of_ble_eq_true rfl), (Nat.le_of_ble_eq_true rfl)⟩ (c_X3_end l D cy cz b g h j z B P O J Z T  hx) ⟨rfl, rfl, rfl, rfl, by decide, rfl, fun _ => rfl⟩ (Nat.le_of_ble_eq_true rfl) ?_
  rintro r1 u1 ⟨e1, hx1⟩
  show G x l room_1 D 4 36 14938 (LWd cy cz b g h j z m u1 M) (lvL bb b m (4 * q)) [.int r1] 204
  refine g_aload_n C dL_law_204 1 rfl rfl ?_
  refine g_callIV C [25, 26, 27, 28, 29, 30, 31, 32, 33, 34, 35] [0, 1, 2, 3, 4, 5, 6, 7, 8, 9, 10, 11, 12, 13, 14, 15, 16, 17, 18, 19, 20, 21, 22, 23, 24] [0, 1, 2, 3, 4, 5, 6, 7, 8, 9, 10, 11, 12, 13, 14, 15, 16, 17, 18, 19, 20, 21, 22, 23, 24, 25, 26, 27, 28, 29, 30, 31, 32, 33, 34, 35] 0 4 (b := m 0) rfl rfl (As := []) (rest := [.int r1]) (wr := W5d cy b g h j z u1) (wf := fun M1 => LWd cy cz b g h j z m u1 M1) dL_law_205 gL_law_X4_end rfl dmX4_end ⟨rfl, rfl, (Nat.le_of_ble_eq_true rfl), (Nat.le_of_ble_eq_true rfl), (Nat.le_of_ble_eq_true rfl), (Nat.le_of_ble_eq_true rfl)⟩ (c_X4_end l D cy cz m M T  hy) ⟨rfl, rfl, rfl, rfl, by decide, rfl, fun _ => rfl⟩ (Nat.le_of_ble_eq_true rfl) ?_
  rintro r2 M1 ⟨e2, hy1⟩
  show G x l room_1 D 4 36 14938 (LWd cy cz b g h j z m u1 M1) (lvL bb b m (4 * q)) [.int r2, .int r1] 208
  exact g_icmp_eq C (tgt := 453) dL_law_208 (by decide) (fun _ => tail _ _ _ hx1 hy1 (Nat.le_trans (len_end T) (by omega))) (fun ne => absurd (e1.trans e2.symm) ne)
set_option maxHeartbeats 1600000 in
set_option maxRecDepth 20000 in
theorem law_5 (hL : L ≤ 2048) (C : Cx x D (tyL cy cz) cL_law 4 wsL_law RL) (S : gScr x bb L xs) (h4 : 4 * q + 4 ≤ L) (hx : RX T u) (hy : RY T M) (hN : T.log.length ≤ q) (tail : lwTail x l D cy cz b g h j z m bb q) : G x l room_1 D 4 36 14938 (LWd cy cz b g h j z m u M) (lvL bb b m (4 * q)) [] 213 := by
  obtain ⟨B, P, O, J, Z⟩ := u
  refine g_aload_n C dL_law_213 2 rfl rfl ?_
  refine g_callIV C [0, 1, 2, 3, 4, 5, 6, 7, 8, 9, 10, 11, 12, 13, 14, 15, 16, 17, 18, 19, 20, 21, 22, 23, 24] [25, 26, 27, 28, 29, 30, 31, 32, 33, 34, 35] [11, 12, 13, 14, 15, 16, 17, 18, 19, 20, 21, 22, 23, 24, 25, 26, 27, 28, 29, 30, 31, 32, 33, 34, 35, 0, 1, 2, 3, 4, 5, 6, 7, 8, 9, 10] 0 3 (b := b 0) rfl rfl (As := []) (rest := []) (wr := wM cy cz m M) (wf := fun u => LWd cy cz b g h j z m u M) dL_law_214 gL_law_X3_undo rfl dmX3_undo ⟨rfl, rfl, (Nat.le_of_ble_eq_true rfl), (Nat.le_of_ble_eq_true rfl), (Nat.le_of_ble_eq_true rfl), (Nat.le_of_ble_eq_true rfl)⟩ (c_X3_undo l D cy cz b g h j z B P O J Z T  hx) ⟨rfl, rfl, rfl, rfl, by decide, rfl, fun _ => rfl⟩ (Nat.le_of_ble_eq_true rfl) ?_
  rintro r1 u1 ⟨e1, hx1⟩
  show G x l room_1 D 4 36 14938 (LWd cy cz b g h j z m u1 M) (lvL bb b m (4 * q)) [.int r1] 217
  refine g_aload_n C dL_law_217 1 rfl rfl ?_
  refine g_callIV C [25, 26, 27, 28, 29, 30, 31, 32, 33, 34, 35] [0, 1, 2, 3, 4, 5, 6, 7, 8, 9, 10, 11, 12, 13, 14, 15, 16, 17, 18, 19, 20, 21, 22, 23, 24] [0, 1, 2, 3, 4, 5, 6, 7, 8, 9, 10, 11, 12, 13, 14, 15, 16, 17, 18, 19, 20, 21, 22, 23, 24, 25, 26, 27, 28, 29, 30, 31, 32, 33, 34, 35] 0 4 (b := m 0) rfl rfl (As := []) (rest := [.int r1]) (wr := W5d cy b g h j z u1) (wf := fun M1 => LWd cy cz b g h j z m u1 M1) dL_law_218 gL_law_X4_undo rfl dmX4_undo ⟨rfl, rfl, (Nat.le_of_ble_eq_true rfl), (Nat.le_of_ble_eq_true rfl), (Nat.le_of_ble_eq_true rfl), (Nat.le_of_ble_eq_true rfl)⟩ (c_X4_undo l D cy cz m M T  hy (by omega)) ⟨rfl, rfl, rfl, rfl, by decide, rfl, fun _ => rfl⟩ (Nat.le_of_ble_eq_true rfl) ?_
  rintro r2 M1 ⟨e2, hy1⟩
  show G x l room_1 D 4 36 14938 (LWd cy cz b g h j z m u1 M1) (lvL bb b m (4 * q)) [.int r2, .int r1] 221
  exact g_icmp_eq C (tgt := 453) dL_law_221 (by decide) (fun _ => tail _ _ _ hx1 hy1 (Nat.le_trans (len_undo T) (by omega))) (fun ne => absurd (e1.trans e2.symm) ne)
set_option maxHeartbeats 1600000 in
set_option maxRecDepth 20000 in
theorem law_6 (hL : L ≤ 2048) (C : Cx x D (tyL cy cz) cL_law 4 wsL_law RL) (S : gScr x bb L xs) (h4 : 4 * q + 4 ≤ L) (hx : RX T u) (hy : RY T M) (hN : T.log.length ≤ q) (tail : lwTail x l D cy cz b g h j z m bb q) : G x l room_1 D 4 36 14938 (LWd cy cz b g h j z m u M) (lvL bb b m (4 * q)) [] 226 := by
  obtain ⟨B, P, O, J, Z⟩ := u
  refine g_aload_n C dL_law_226 2 rfl rfl ?_
  refine g_callIV C [0, 1, 2, 3, 4, 5, 6, 7, 8, 9, 10, 11, 12, 13, 14, 15, 16, 17, 18, 19, 20, 21, 22, 23, 24] [25, 26, 27, 28, 29, 30, 31, 32, 33, 34, 35] [11, 12, 13, 14, 15, 16, 17, 18, 19, 20, 21, 22, 23, 24, 25, 26, 27, 28, 29, 30, 31, 32, 33, 34, 35, 0, 1, 2, 3, 4, 5, 6, 7, 8, 9, 10] 0 3 (b := b 0) rfl rfl (As := []) (rest := []) (wr := wM cy cz m M) (wf := fun u => LWd cy cz b g h j z m u M) dL_law_227 gL_law_X3_keep rfl dmX3_keep ⟨rfl, rfl, (Nat.le_of_ble_eq_true rfl), (Nat.le_of_ble_eq_true rfl), (Nat.le_of_ble_eq_true rfl), (Nat.le_of_ble_eq_true rfl)⟩ (c_X3_keep l D cy cz b g h j z B P O J Z T  hx) ⟨rfl, rfl, rfl, rfl, by decide, rfl, fun _ => rfl⟩ (Nat.le_of_ble_eq_true rfl) ?_
  rintro r1 u1 ⟨e1, hx1⟩
  show G x l room_1 D 4 36 14938 (LWd cy cz b g h j z m u1 M) (lvL bb b m (4 * q)) [.int r1] 230
  refine g_aload_n C dL_law_230 1 rfl rfl ?_
  refine g_callIV C [25, 26, 27, 28, 29, 30, 31, 32, 33, 34, 35] [0, 1, 2, 3, 4, 5, 6, 7, 8, 9, 10, 11, 12, 13, 14, 15, 16, 17, 18, 19, 20, 21, 22, 23, 24] [0, 1, 2, 3, 4, 5, 6, 7, 8, 9, 10, 11, 12, 13, 14, 15, 16, 17, 18, 19, 20, 21, 22, 23, 24, 25, 26, 27, 28, 29, 30, 31, 32, 33, 34, 35] 0 4 (b := m 0) rfl rfl (As := []) (rest := [.int r1]) (wr := W5d cy b g h j z u1) (wf := fun M1 => LWd cy cz b g h j z m u1 M1) dL_law_231 gL_law_X4_keep rfl dmX4_keep ⟨rfl, rfl, (Nat.le_of_ble_eq_true rfl), (Nat.le_of_ble_eq_true rfl), (Nat.le_of_ble_eq_true rfl), (Nat.le_of_ble_eq_true rfl)⟩ (c_X4_keep l D cy cz m M T  hy) ⟨rfl, rfl, rfl, rfl, by decide, rfl, fun _ => rfl⟩ (Nat.le_of_ble_eq_true rfl) ?_
  rintro r2 M1 ⟨e2, hy1⟩
  show G x l room_1 D 4 36 14938 (LWd cy cz b g h j z m u1 M1) (lvL bb b m (4 * q)) [.int r2, .int r1] 234
  exact g_icmp_eq C (tgt := 453) dL_law_234 (by decide) (fun _ => tail _ _ _ hx1 hy1 (Nat.le_trans (len_keep T) (by omega))) (fun ne => absurd (e1.trans e2.symm) ne)
set_option maxHeartbeats 1600000 in
set_option maxRecDepth 20000 in
theorem law_7 (hL : L ≤ 2048) (C : Cx x D (tyL cy cz) cL_law 4 wsL_law RL) (S : gScr x bb L xs) (h4 : 4 * q + 4 ≤ L) (hx : RX T u) (hy : RY T M) (hN : T.log.length ≤ q) (tail : lwTail x l D cy cz b g h j z m bb q) : G x l room_1 D 4 36 14938 (LWd cy cz b g h j z m u M) (lvL bb b m (4 * q)) [] 239 := by
  obtain ⟨B, P, O, J, Z⟩ := u
  refine g_aload_n C dL_law_239 2 rfl rfl ?_
  refine g_gets C S (4 * q) 1 (by decide) rfl rfl (by omega) hL dL_law_240 dL_law_241 dL_law_242 dL_law_243 dL_law_244 ?_
  refine g_callIV C [0, 1, 2, 3, 4, 5, 6, 7, 8, 9, 10, 11, 12, 13, 14, 15, 16, 17, 18, 19, 20, 21, 22, 23, 24] [25, 26, 27, 28, 29, 30, 31, 32, 33, 34, 35] [11, 12, 13, 14, 15, 16, 17, 18, 19, 20, 21, 22, 23, 24, 25, 26, 27, 28, 29, 30, 31, 32, 33, 34, 35, 0, 1, 2, 3, 4, 5, 6, 7, 8, 9, 10] 0 3 (b := b 0) rfl rfl (As := [.int (xs (4 * q + 1))]) (rest := []) (wr := wM cy cz m M) (wf := fun u => LWd cy cz b g h j z m u M) dL_law_245 gL_law_X3_stop rfl dmX3_stop ⟨rfl, rfl, (Nat.le_of_ble_eq_true rfl), (Nat.le_of_ble_eq_true rfl), (Nat.le_of_ble_eq_true rfl), (Nat.le_of_ble_eq_true rfl)⟩ (c_X3_stop l D cy cz b g h j z B P O J Z T (xs (4 * q + 1)) hx) ⟨rfl, rfl, rfl, rfl, by decide, rfl, fun _ => rfl⟩ (Nat.le_of_ble_eq_true rfl) ?_
  rintro r1 u1 ⟨e1, hx1⟩
  show G x l room_1 D 4 36 14938 (LWd cy cz b g h j z m u1 M) (lvL bb b m (4 * q)) [.int r1] 248
  refine g_aload_n C dL_law_248 1 rfl rfl ?_
  refine g_gets C S (4 * q) 1 (by decide) rfl rfl (by omega) hL dL_law_249 dL_law_250 dL_law_251 dL_law_252 dL_law_253 ?_
  refine g_callIV C [25, 26, 27, 28, 29, 30, 31, 32, 33, 34, 35] [0, 1, 2, 3, 4, 5, 6, 7, 8, 9, 10, 11, 12, 13, 14, 15, 16, 17, 18, 19, 20, 21, 22, 23, 24] [0, 1, 2, 3, 4, 5, 6, 7, 8, 9, 10, 11, 12, 13, 14, 15, 16, 17, 18, 19, 20, 21, 22, 23, 24, 25, 26, 27, 28, 29, 30, 31, 32, 33, 34, 35] 0 4 (b := m 0) rfl rfl (As := [.int (xs (4 * q + 1))]) (rest := [.int r1]) (wr := W5d cy b g h j z u1) (wf := fun M1 => LWd cy cz b g h j z m u1 M1) dL_law_254 gL_law_X4_stop rfl dmX4_stop ⟨rfl, rfl, (Nat.le_of_ble_eq_true rfl), (Nat.le_of_ble_eq_true rfl), (Nat.le_of_ble_eq_true rfl), (Nat.le_of_ble_eq_true rfl)⟩ (c_X4_stop l D cy cz m M T (xs (4 * q + 1)) hy (by omega)) ⟨rfl, rfl, rfl, rfl, by decide, rfl, fun _ => rfl⟩ (Nat.le_of_ble_eq_true rfl) ?_
  rintro r2 M1 ⟨e2, hy1⟩
  show G x l room_1 D 4 36 14938 (LWd cy cz b g h j z m u1 M1) (lvL bb b m (4 * q)) [.int r2, .int r1] 257
  exact g_icmp_eq C (tgt := 453) dL_law_257 (by decide) (fun _ => tail _ _ _ hx1 hy1 (Nat.le_trans (len_stop T _) (by omega))) (fun ne => absurd (e1.trans e2.symm) ne)
set_option maxHeartbeats 1600000 in
set_option maxRecDepth 20000 in
theorem law_8 (hL : L ≤ 2048) (C : Cx x D (tyL cy cz) cL_law 4 wsL_law RL) (S : gScr x bb L xs) (h4 : 4 * q + 4 ≤ L) (hx : RX T u) (hy : RY T M) (hN : T.log.length ≤ q) (tail : lwTail x l D cy cz b g h j z m bb q) : G x l room_1 D 4 36 14938 (LWd cy cz b g h j z m u M) (lvL bb b m (4 * q)) [] 262 := by
  obtain ⟨B, P, O, J, Z⟩ := u
  refine g_aload_n C dL_law_262 2 rfl rfl ?_
  refine g_gets C S (4 * q) 1 (by decide) rfl rfl (by omega) hL dL_law_263 dL_law_264 dL_law_265 dL_law_266 dL_law_267 ?_
  refine g_callIV C [0, 1, 2, 3, 4, 5, 6, 7, 8, 9, 10, 11, 12, 13, 14, 15, 16, 17, 18, 19, 20, 21, 22, 23, 24] [25, 26, 27, 28, 29, 30, 31, 32, 33, 34, 35] [11, 12, 13, 14, 15, 16, 17, 18, 19, 20, 21, 22, 23, 24, 25, 26, 27, 28, 29, 30, 31, 32, 33, 34, 35, 0, 1, 2, 3, 4, 5, 6, 7, 8, 9, 10] 0 3 (b := b 0) rfl rfl (As := [.int (xs (4 * q + 1))]) (rest := []) (wr := wM cy cz m M) (wf := fun u => LWd cy cz b g h j z m u M) dL_law_268 gL_law_X3_address rfl dmX3_address ⟨rfl, rfl, (Nat.le_of_ble_eq_true rfl), (Nat.le_of_ble_eq_true rfl), (Nat.le_of_ble_eq_true rfl), (Nat.le_of_ble_eq_true rfl)⟩ (c_X3_address l D cy cz b g h j z B P O J Z T (xs (4 * q + 1)) hx) ⟨rfl, rfl, rfl, rfl, by decide, rfl, fun _ => rfl⟩ (Nat.le_of_ble_eq_true rfl) ?_
  rintro r1 u1 ⟨e1, hx1⟩
  show G x l room_1 D 4 36 14938 (LWd cy cz b g h j z m u1 M) (lvL bb b m (4 * q)) [.int r1] 271
  refine g_aload_n C dL_law_271 1 rfl rfl ?_
  refine g_gets C S (4 * q) 1 (by decide) rfl rfl (by omega) hL dL_law_272 dL_law_273 dL_law_274 dL_law_275 dL_law_276 ?_
  refine g_callIV C [25, 26, 27, 28, 29, 30, 31, 32, 33, 34, 35] [0, 1, 2, 3, 4, 5, 6, 7, 8, 9, 10, 11, 12, 13, 14, 15, 16, 17, 18, 19, 20, 21, 22, 23, 24] [0, 1, 2, 3, 4, 5, 6, 7, 8, 9, 10, 11, 12, 13, 14, 15, 16, 17, 18, 19, 20, 21, 22, 23, 24, 25, 26, 27, 28, 29, 30, 31, 32, 33, 34, 35] 0 4 (b := m 0) rfl rfl (As := [.int (xs (4 * q + 1))]) (rest := [.int r1]) (wr := W5d cy b g h j z u1) (wf := fun M1 => LWd cy cz b g h j z m u1 M1) dL_law_277 gL_law_X4_address rfl dmX4_address ⟨rfl, rfl, (Nat.le_of_ble_eq_true rfl), (Nat.le_of_ble_eq_true rfl), (Nat.le_of_ble_eq_true rfl), (Nat.le_of_ble_eq_true rfl)⟩ (c_X4_address l D cy cz m M T (xs (4 * q + 1)) hy) ⟨rfl, rfl, rfl, rfl, by decide, rfl, fun _ => rfl⟩ (Nat.le_of_ble_eq_true rfl) ?_
  rintro r2 M1 ⟨e2, hy1⟩
  show G x l room_1 D 4 36 14938 (LWd cy cz b g h j z m u1 M1) (lvL bb b m (4 * q)) [.int r2, .int r1] 280
  exact g_icmp_eq C (tgt := 453) dL_law_280 (by decide) (fun _ => tail _ _ _ hx1 hy1 (Nat.le_succ_of_le hN)) (fun ne => absurd (e1.trans e2.symm) ne)
set_option maxHeartbeats 1600000 in
set_option maxRecDepth 20000 in
theorem law_9 (hL : L ≤ 2048) (C : Cx x D (tyL cy cz) cL_law 4 wsL_law RL) (S : gScr x bb L xs) (h4 : 4 * q + 4 ≤ L) (hx : RX T u) (hy : RY T M) (hN : T.log.length ≤ q) (tail : lwTail x l D cy cz b g h j z m bb q) : G x l room_1 D 4 36 14938 (LWd cy cz b g h j z m u M) (lvL bb b m (4 * q)) [] 285 := by
  obtain ⟨B, P, O, J, Z⟩ := u
  refine g_aload_n C dL_law_285 2 rfl rfl ?_
  refine g_gets C S (4 * q) 1 (by decide) rfl rfl (by omega) hL dL_law_286 dL_law_287 dL_law_288 dL_law_289 dL_law_290 ?_
  refine g_gets C S (4 * q) 2 (by decide) rfl rfl (by omega) hL dL_law_291 dL_law_292 dL_law_293 dL_law_294 dL_law_295 ?_
  refine g_callIV C [0, 1, 2, 3, 4, 5, 6, 7, 8, 9, 10, 11, 12, 13, 14, 15, 16, 17, 18, 19, 20, 21, 22, 23, 24] [25, 26, 27, 28, 29, 30, 31, 32, 33, 34, 35] [11, 12, 13, 14, 15, 16, 17, 18, 19, 20, 21, 22, 23, 24, 25, 26, 27, 28, 29, 30, 31, 32, 33, 34, 35, 0, 1, 2, 3, 4, 5, 6, 7, 8, 9, 10] 0 3 (b := b 0) rfl rfl (As := [.int (xs (4 * q + 1)), .int (xs (4 * q + 2))]) (rest := []) (wr := wM cy cz m M) (wf := fun u => LWd cy cz b g h j z m u M) dL_law_296 gL_law_X3_bucket rfl dmX3_bucket ⟨rfl, rfl, (Nat.le_of_ble_eq_true rfl), (Nat.le_of_ble_eq_true rfl), (Nat.le_of_ble_eq_true rfl), (Nat.le_of_ble_eq_true rfl)⟩ (c_X3_bucket l D cy cz b g h j z B P O J Z T (xs (4 * q + 1)) (xs (4 * q + 2)) hx) ⟨rfl, rfl, rfl, rfl, by decide, rfl, fun _ => rfl⟩ (Nat.le_of_ble_eq_true rfl) ?_
  rintro r1 u1 ⟨e1, hx1⟩
  show G x l room_1 D 4 36 14938 (LWd cy cz b g h j z m u1 M) (lvL bb b m (4 * q)) [.int r1] 299
  refine g_aload_n C dL_law_299 1 rfl rfl ?_
  refine g_gets C S (4 * q) 1 (by decide) rfl rfl (by omega) hL dL_law_300 dL_law_301 dL_law_302 dL_law_303 dL_law_304 ?_
  refine g_gets C S (4 * q) 2 (by decide) rfl rfl (by omega) hL dL_law_305 dL_law_306 dL_law_307 dL_law_308 dL_law_309 ?_
  refine g_callIV C [25, 26, 27, 28, 29, 30, 31, 32, 33, 34, 35] [0, 1, 2, 3, 4, 5, 6, 7, 8, 9, 10, 11, 12, 13, 14, 15, 16, 17, 18, 19, 20, 21, 22, 23, 24] [0, 1, 2, 3, 4, 5, 6, 7, 8, 9, 10, 11, 12, 13, 14, 15, 16, 17, 18, 19, 20, 21, 22, 23, 24, 25, 26, 27, 28, 29, 30, 31, 32, 33, 34, 35] 0 4 (b := m 0) rfl rfl (As := [.int (xs (4 * q + 1)), .int (xs (4 * q + 2))]) (rest := [.int r1]) (wr := W5d cy b g h j z u1) (wf := fun M1 => LWd cy cz b g h j z m u1 M1) dL_law_310 gL_law_X4_bucket rfl dmX4_bucket ⟨rfl, rfl, (Nat.le_of_ble_eq_true rfl), (Nat.le_of_ble_eq_true rfl), (Nat.le_of_ble_eq_true rfl), (Nat.le_of_ble_eq_true rfl)⟩ (c_X4_bucket l D cy cz m M T (xs (4 * q + 1)) (xs (4 * q + 2)) hy) ⟨rfl, rfl, rfl, rfl, by decide, rfl, fun _ => rfl⟩ (Nat.le_of_ble_eq_true rfl) ?_
  rintro r2 M1 ⟨e2, hy1⟩
  show G x l room_1 D 4 36 14938 (LWd cy cz b g h j z m u1 M1) (lvL bb b m (4 * q)) [.int r2, .int r1] 313
  exact g_icmp_eq C (tgt := 453) dL_law_313 (by decide) (fun _ => tail _ _ _ hx1 hy1 (Nat.le_succ_of_le hN)) (fun ne => absurd (e1.trans e2.symm) ne)
set_option maxHeartbeats 1600000 in
set_option maxRecDepth 20000 in
theorem law_10 (hL : L ≤ 2048) (C : Cx x D (tyL cy cz) cL_law 4 wsL_law RL) (S : gScr x bb L xs) (h4 : 4 * q + 4 ≤ L) (hx : RX T u) (hy : RY T M) (hN : T.log.length ≤ q) (tail : lwTail x l D cy cz b g h j z m bb q) : G x l room_1 D 4 36 14938 (LWd cy cz b g h j z m u M) (lvL bb b m (4 * q)) [] 318 := by
  obtain ⟨B, P, O, J, Z⟩ := u
  refine g_aload_n C dL_law_318 2 rfl rfl ?_
  refine g_gets C S (4 * q) 1 (by decide) rfl rfl (by omega) hL dL_law_319 dL_law_320 dL_law_321 dL_law_322 dL_law_323 ?_
  refine g_gets C S (4 * q) 2 (by decide) rfl rfl (by omega) hL dL_law_324 dL_law_325 dL_law_326 dL_law_327 dL_law_328 ?_
  refine g_callIV C [0, 1, 2, 3, 4, 5, 6, 7, 8, 9, 10, 11, 12, 13, 14, 15, 16, 17, 18, 19, 20, 21, 22, 23, 24] [25, 26, 27, 28, 29, 30, 31, 32, 33, 34, 35] [11, 12, 13, 14, 15, 16, 17, 18, 19, 20, 21, 22, 23, 24, 25, 26, 27, 28, 29, 30, 31, 32, 33, 34, 35, 0, 1, 2, 3, 4, 5, 6, 7, 8, 9, 10] 0 3 (b := b 0) rfl rfl (As := [.int (xs (4 * q + 1)), .int (xs (4 * q + 2))]) (rest := []) (wr := wM cy cz m M) (wf := fun u => LWd cy cz b g h j z m u M) dL_law_329 gL_law_X3_page rfl dmX3_page ⟨rfl, rfl, (Nat.le_of_ble_eq_true rfl), (Nat.le_of_ble_eq_true rfl), (Nat.le_of_ble_eq_true rfl), (Nat.le_of_ble_eq_true rfl)⟩ (c_X3_page l D cy cz b g h j z B P O J Z T (xs (4 * q + 1)) (xs (4 * q + 2)) hx) ⟨rfl, rfl, rfl, rfl, by decide, rfl, fun _ => rfl⟩ (Nat.le_of_ble_eq_true rfl) ?_
  rintro r1 u1 ⟨e1, hx1⟩
  show G x l room_1 D 4 36 14938 (LWd cy cz b g h j z m u1 M) (lvL bb b m (4 * q)) [.int r1] 332
  refine g_aload_n C dL_law_332 1 rfl rfl ?_
  refine g_gets C S (4 * q) 1 (by decide) rfl rfl (by omega) hL dL_law_333 dL_law_334 dL_law_335 dL_law_336 dL_law_337 ?_
  refine g_gets C S (4 * q) 2 (by decide) rfl rfl (by omega) hL dL_law_338 dL_law_339 dL_law_340 dL_law_341 dL_law_342 ?_
  refine g_callIV C [25, 26, 27, 28, 29, 30, 31, 32, 33, 34, 35] [0, 1, 2, 3, 4, 5, 6, 7, 8, 9, 10, 11, 12, 13, 14, 15, 16, 17, 18, 19, 20, 21, 22, 23, 24] [0, 1, 2, 3, 4, 5, 6, 7, 8, 9, 10, 11, 12, 13, 14, 15, 16, 17, 18, 19, 20, 21, 22, 23, 24, 25, 26, 27, 28, 29, 30, 31, 32, 33, 34, 35] 0 4 (b := m 0) rfl rfl (As := [.int (xs (4 * q + 1)), .int (xs (4 * q + 2))]) (rest := [.int r1]) (wr := W5d cy b g h j z u1) (wf := fun M1 => LWd cy cz b g h j z m u1 M1) dL_law_343 gL_law_X4_page rfl dmX4_page ⟨rfl, rfl, (Nat.le_of_ble_eq_true rfl), (Nat.le_of_ble_eq_true rfl), (Nat.le_of_ble_eq_true rfl), (Nat.le_of_ble_eq_true rfl)⟩ (c_X4_page l D cy cz m M T (xs (4 * q + 1)) (xs (4 * q + 2)) hy) ⟨rfl, rfl, rfl, rfl, by decide, rfl, fun _ => rfl⟩ (Nat.le_of_ble_eq_true rfl) ?_
  rintro r2 M1 ⟨e2, hy1⟩
  show G x l room_1 D 4 36 14938 (LWd cy cz b g h j z m u1 M1) (lvL bb b m (4 * q)) [.int r2, .int r1] 346
  exact g_icmp_eq C (tgt := 453) dL_law_346 (by decide) (fun _ => tail _ _ _ hx1 hy1 (Nat.le_succ_of_le hN)) (fun ne => absurd (e1.trans e2.symm) ne)
set_option maxHeartbeats 1600000 in
set_option maxRecDepth 20000 in
theorem law_11 (hL : L ≤ 2048) (C : Cx x D (tyL cy cz) cL_law 4 wsL_law RL) (S : gScr x bb L xs) (h4 : 4 * q + 4 ≤ L) (hx : RX T u) (hy : RY T M) (hN : T.log.length ≤ q) (tail : lwTail x l D cy cz b g h j z m bb q) : G x l room_1 D 4 36 14938 (LWd cy cz b g h j z m u M) (lvL bb b m (4 * q)) [] 351 := by
  obtain ⟨B, P, O, J, Z⟩ := u
  refine g_aload_n C dL_law_351 2 rfl rfl ?_
  refine g_gets C S (4 * q) 1 (by decide) rfl rfl (by omega) hL dL_law_352 dL_law_353 dL_law_354 dL_law_355 dL_law_356 ?_
  refine g_gets C S (4 * q) 2 (by decide) rfl rfl (by omega) hL dL_law_357 dL_law_358 dL_law_359 dL_law_360 dL_law_361 ?_
  refine g_gets C S (4 * q) 3 (by decide) rfl rfl (by omega) hL dL_law_362 dL_law_363 dL_law_364 dL_law_365 dL_law_366 ?_
  refine g_callIV C [0, 1, 2, 3, 4, 5, 6, 7, 8, 9, 10, 11, 12, 13, 14, 15, 16, 17, 18, 19, 20, 21, 22, 23, 24] [25, 26, 27, 28, 29, 30, 31, 32, 33, 34, 35] [11, 12, 13, 14, 15, 16, 17, 18, 19, 20, 21, 22, 23, 24, 25, 26, 27, 28, 29, 30, 31, 32, 33, 34, 35, 0, 1, 2, 3, 4, 5, 6, 7, 8, 9, 10] 0 3 (b := b 0) rfl rfl (As := [.int (xs (4 * q + 1)), .int (xs (4 * q + 2)), .int (xs (4 * q + 3))]) (rest := []) (wr := wM cy cz m M) (wf := fun u => LWd cy cz b g h j z m u M) dL_law_367 gL_law_X3_cell rfl dmX3_cell ⟨rfl, rfl, (Nat.le_of_ble_eq_true rfl), (Nat.le_of_ble_eq_true rfl), (Nat.le_of_ble_eq_true rfl), (Nat.le_of_ble_eq_true rfl)⟩ (c_X3_cell l D cy cz b g h j z B P O J Z T (xs (4 * q + 1)) (xs (4 * q + 2)) (xs (4 * q + 3)) hx) ⟨rfl, rfl, rfl, rfl, by decide, rfl, fun _ => rfl⟩ (Nat.le_of_ble_eq_true rfl) ?_
  rintro r1 u1 ⟨e1, hx1⟩
  show G x l room_1 D 4 36 14938 (LWd cy cz b g h j z m u1 M) (lvL bb b m (4 * q)) [.int r1] 370
  refine g_aload_n C dL_law_370 1 rfl rfl ?_
  refine g_gets C S (4 * q) 1 (by decide) rfl rfl (by omega) hL dL_law_371 dL_law_372 dL_law_373 dL_law_374 dL_law_375 ?_
  refine g_gets C S (4 * q) 2 (by decide) rfl rfl (by omega) hL dL_law_376 dL_law_377 dL_law_378 dL_law_379 dL_law_380 ?_
  refine g_gets C S (4 * q) 3 (by decide) rfl rfl (by omega) hL dL_law_381 dL_law_382 dL_law_383 dL_law_384 dL_law_385 ?_
  refine g_callIV C [25, 26, 27, 28, 29, 30, 31, 32, 33, 34, 35] [0, 1, 2, 3, 4, 5, 6, 7, 8, 9, 10, 11, 12, 13, 14, 15, 16, 17, 18, 19, 20, 21, 22, 23, 24] [0, 1, 2, 3, 4, 5, 6, 7, 8, 9, 10, 11, 12, 13, 14, 15, 16, 17, 18, 19, 20, 21, 22, 23, 24, 25, 26, 27, 28, 29, 30, 31, 32, 33, 34, 35] 0 4 (b := m 0) rfl rfl (As := [.int (xs (4 * q + 1)), .int (xs (4 * q + 2)), .int (xs (4 * q + 3))]) (rest := [.int r1]) (wr := W5d cy b g h j z u1) (wf := fun M1 => LWd cy cz b g h j z m u1 M1) dL_law_386 gL_law_X4_cell rfl dmX4_cell ⟨rfl, rfl, (Nat.le_of_ble_eq_true rfl), (Nat.le_of_ble_eq_true rfl), (Nat.le_of_ble_eq_true rfl), (Nat.le_of_ble_eq_true rfl)⟩ (c_X4_cell l D cy cz m M T (xs (4 * q + 1)) (xs (4 * q + 2)) (xs (4 * q + 3)) hy) ⟨rfl, rfl, rfl, rfl, by decide, rfl, fun _ => rfl⟩ (Nat.le_of_ble_eq_true rfl) ?_
  rintro r2 M1 ⟨e2, hy1⟩
  show G x l room_1 D 4 36 14938 (LWd cy cz b g h j z m u1 M1) (lvL bb b m (4 * q)) [.int r2, .int r1] 389
  exact g_icmp_eq C (tgt := 453) dL_law_389 (by decide) (fun _ => tail _ _ _ hx1 hy1 (Nat.le_succ_of_le hN)) (fun ne => absurd (e1.trans e2.symm) ne)
set_option maxHeartbeats 1600000 in
set_option maxRecDepth 20000 in
theorem law_12 (hL : L ≤ 2048) (C : Cx x D (tyL cy cz) cL_law 4 wsL_law RL) (S : gScr x bb L xs) (h4 : 4 * q + 4 ≤ L) (hx : RX T u) (hy : RY T M) (hN : T.log.length ≤ q) (tail : lwTail x l D cy cz b g h j z m bb q) : G x l room_1 D 4 36 14938 (LWd cy cz b g h j z m u M) (lvL bb b m (4 * q)) [] 394 := by
  obtain ⟨B, P, O, J, Z⟩ := u
  refine g_aload_n C dL_law_394 2 rfl rfl ?_
  refine g_gets C S (4 * q) 1 (by decide) rfl rfl (by omega) hL dL_law_395 dL_law_396 dL_law_397 dL_law_398 dL_law_399 ?_
  refine g_callIV C [0, 1, 2, 3, 4, 5, 6, 7, 8, 9, 10, 11, 12, 13, 14, 15, 16, 17, 18, 19, 20, 21, 22, 23, 24] [25, 26, 27, 28, 29, 30, 31, 32, 33, 34, 35] [11, 12, 13, 14, 15, 16, 17, 18, 19, 20, 21, 22, 23, 24, 25, 26, 27, 28, 29, 30, 31, 32, 33, 34, 35, 0, 1, 2, 3, 4, 5, 6, 7, 8, 9, 10] 0 3 (b := b 0) rfl rfl (As := [.int (xs (4 * q + 1))]) (rest := []) (wr := wM cy cz m M) (wf := fun u => LWd cy cz b g h j z m u M) dL_law_400 gL_law_X3_entry rfl dmX3_entry ⟨rfl, rfl, (Nat.le_of_ble_eq_true rfl), (Nat.le_of_ble_eq_true rfl), (Nat.le_of_ble_eq_true rfl), (Nat.le_of_ble_eq_true rfl)⟩ (c_X3_entry l D cy cz b g h j z B P O J Z T (xs (4 * q + 1)) hx) ⟨rfl, rfl, rfl, rfl, by decide, rfl, fun _ => rfl⟩ (Nat.le_of_ble_eq_true rfl) ?_
  rintro r1 u1 ⟨e1, hx1⟩
  show G x l room_1 D 4 36 14938 (LWd cy cz b g h j z m u1 M) (lvL bb b m (4 * q)) [.int r1] 403
  refine g_aload_n C dL_law_403 1 rfl rfl ?_
  refine g_gets C S (4 * q) 1 (by decide) rfl rfl (by omega) hL dL_law_404 dL_law_405 dL_law_406 dL_law_407 dL_law_408 ?_
  refine g_callIV C [25, 26, 27, 28, 29, 30, 31, 32, 33, 34, 35] [0, 1, 2, 3, 4, 5, 6, 7, 8, 9, 10, 11, 12, 13, 14, 15, 16, 17, 18, 19, 20, 21, 22, 23, 24] [0, 1, 2, 3, 4, 5, 6, 7, 8, 9, 10, 11, 12, 13, 14, 15, 16, 17, 18, 19, 20, 21, 22, 23, 24, 25, 26, 27, 28, 29, 30, 31, 32, 33, 34, 35] 0 4 (b := m 0) rfl rfl (As := [.int (xs (4 * q + 1))]) (rest := [.int r1]) (wr := W5d cy b g h j z u1) (wf := fun M1 => LWd cy cz b g h j z m u1 M1) dL_law_409 gL_law_X4_entry rfl dmX4_entry ⟨rfl, rfl, (Nat.le_of_ble_eq_true rfl), (Nat.le_of_ble_eq_true rfl), (Nat.le_of_ble_eq_true rfl), (Nat.le_of_ble_eq_true rfl)⟩ (c_X4_entry l D cy cz m M T (xs (4 * q + 1)) hy) ⟨rfl, rfl, rfl, rfl, by decide, rfl, fun _ => rfl⟩ (Nat.le_of_ble_eq_true rfl) ?_
  rintro r2 M1 ⟨e2, hy1⟩
  show G x l room_1 D 4 36 14938 (LWd cy cz b g h j z m u1 M1) (lvL bb b m (4 * q)) [.int r2, .int r1] 412
  exact g_icmp_eq C (tgt := 453) dL_law_412 (by decide) (fun _ => tail _ _ _ hx1 hy1 (Nat.le_succ_of_le hN)) (fun ne => absurd (e1.trans e2.symm) ne)
set_option maxHeartbeats 1600000 in
set_option maxRecDepth 20000 in
theorem law_13 (hL : L ≤ 2048) (C : Cx x D (tyL cy cz) cL_law 4 wsL_law RL) (S : gScr x bb L xs) (h4 : 4 * q + 4 ≤ L) (hx : RX T u) (hy : RY T M) (hN : T.log.length ≤ q) (tail : lwTail x l D cy cz b g h j z m bb q) : G x l room_1 D 4 36 14938 (LWd cy cz b g h j z m u M) (lvL bb b m (4 * q)) [] 417 := by
  obtain ⟨B, P, O, J, Z⟩ := u
  refine g_aload_n C dL_law_417 2 rfl rfl ?_
  refine g_callIV C [0, 1, 2, 3, 4, 5, 6, 7, 8, 9, 10, 11, 12, 13, 14, 15, 16, 17, 18, 19, 20, 21, 22, 23, 24] [25, 26, 27, 28, 29, 30, 31, 32, 33, 34, 35] [11, 12, 13, 14, 15, 16, 17, 18, 19, 20, 21, 22, 23, 24, 25, 26, 27, 28, 29, 30, 31, 32, 33, 34, 35, 0, 1, 2, 3, 4, 5, 6, 7, 8, 9, 10] 0 3 (b := b 0) rfl rfl (As := []) (rest := []) (wr := wM cy cz m M) (wf := fun u => LWd cy cz b g h j z m u M) dL_law_418 gL_law_X3_effort rfl dmX3_effort ⟨rfl, rfl, (Nat.le_of_ble_eq_true rfl), (Nat.le_of_ble_eq_true rfl), (Nat.le_of_ble_eq_true rfl), (Nat.le_of_ble_eq_true rfl)⟩ (c_X3_effort l D cy cz b g h j z B P O J Z T  hx) ⟨rfl, rfl, rfl, rfl, by decide, rfl, fun _ => rfl⟩ (Nat.le_of_ble_eq_true rfl) ?_
  rintro r1 u1 ⟨e1, hx1⟩
  show G x l room_1 D 4 36 14938 (LWd cy cz b g h j z m u1 M) (lvL bb b m (4 * q)) [.int r1] 421
  refine g_aload_n C dL_law_421 1 rfl rfl ?_
  refine g_callIV C [25, 26, 27, 28, 29, 30, 31, 32, 33, 34, 35] [0, 1, 2, 3, 4, 5, 6, 7, 8, 9, 10, 11, 12, 13, 14, 15, 16, 17, 18, 19, 20, 21, 22, 23, 24] [0, 1, 2, 3, 4, 5, 6, 7, 8, 9, 10, 11, 12, 13, 14, 15, 16, 17, 18, 19, 20, 21, 22, 23, 24, 25, 26, 27, 28, 29, 30, 31, 32, 33, 34, 35] 0 4 (b := m 0) rfl rfl (As := []) (rest := [.int r1]) (wr := W5d cy b g h j z u1) (wf := fun M1 => LWd cy cz b g h j z m u1 M1) dL_law_422 gL_law_X4_effort rfl dmX4_effort ⟨rfl, rfl, (Nat.le_of_ble_eq_true rfl), (Nat.le_of_ble_eq_true rfl), (Nat.le_of_ble_eq_true rfl), (Nat.le_of_ble_eq_true rfl)⟩ (c_X4_effort l D cy cz m M T  hy) ⟨rfl, rfl, rfl, rfl, by decide, rfl, fun _ => rfl⟩ (Nat.le_of_ble_eq_true rfl) ?_
  rintro r2 M1 ⟨e2, hy1⟩
  show G x l room_1 D 4 36 14938 (LWd cy cz b g h j z m u1 M1) (lvL bb b m (4 * q)) [.int r2, .int r1] 425
  exact g_icmp_eq C (tgt := 453) dL_law_425 (by decide) (fun _ => tail _ _ _ hx1 hy1 (Nat.le_succ_of_le hN)) (fun ne => absurd (e1.trans e2.symm) ne)
set_option maxHeartbeats 1600000 in
set_option maxRecDepth 20000 in
theorem law_14 (hL : L ≤ 2048) (C : Cx x D (tyL cy cz) cL_law 4 wsL_law RL) (S : gScr x bb L xs) (h4 : 4 * q + 4 ≤ L) (hx : RX T u) (hy : RY T M) (hN : T.log.length ≤ q) (tail : lwTail x l D cy cz b g h j z m bb q) : G x l room_1 D 4 36 14938 (LWd cy cz b g h j z m u M) (lvL bb b m (4 * q)) [] 430 := by
  obtain ⟨B, P, O, J, Z⟩ := u
  refine g_aload_n C dL_law_430 2 rfl rfl ?_
  refine g_gets C S (4 * q) 1 (by decide) rfl rfl (by omega) hL dL_law_431 dL_law_432 dL_law_433 dL_law_434 dL_law_435 ?_
  refine g_callIV C [0, 1, 2, 3, 4, 5, 6, 7, 8, 9, 10, 11, 12, 13, 14, 15, 16, 17, 18, 19, 20, 21, 22, 23, 24] [25, 26, 27, 28, 29, 30, 31, 32, 33, 34, 35] [11, 12, 13, 14, 15, 16, 17, 18, 19, 20, 21, 22, 23, 24, 25, 26, 27, 28, 29, 30, 31, 32, 33, 34, 35, 0, 1, 2, 3, 4, 5, 6, 7, 8, 9, 10] 0 3 (b := b 0) rfl rfl (As := [.int (xs (4 * q + 1))]) (rest := []) (wr := wM cy cz m M) (wf := fun u => LWd cy cz b g h j z m u M) dL_law_436 gL_law_X3_count rfl dmX3_count ⟨rfl, rfl, (Nat.le_of_ble_eq_true rfl), (Nat.le_of_ble_eq_true rfl), (Nat.le_of_ble_eq_true rfl), (Nat.le_of_ble_eq_true rfl)⟩ (c_X3_count l D cy cz b g h j z B P O J Z T (xs (4 * q + 1)) hx) ⟨rfl, rfl, rfl, rfl, by decide, rfl, fun _ => rfl⟩ (Nat.le_of_ble_eq_true rfl) ?_
  rintro r1 u1 ⟨e1, hx1⟩
  show G x l room_1 D 4 36 14938 (LWd cy cz b g h j z m u1 M) (lvL bb b m (4 * q)) [.int r1] 439
  refine g_aload_n C dL_law_439 1 rfl rfl ?_
  refine g_gets C S (4 * q) 1 (by decide) rfl rfl (by omega) hL dL_law_440 dL_law_441 dL_law_442 dL_law_443 dL_law_444 ?_
  refine g_callIV C [25, 26, 27, 28, 29, 30, 31, 32, 33, 34, 35] [0, 1, 2, 3, 4, 5, 6, 7, 8, 9, 10, 11, 12, 13, 14, 15, 16, 17, 18, 19, 20, 21, 22, 23, 24] [0, 1, 2, 3, 4, 5, 6, 7, 8, 9, 10, 11, 12, 13, 14, 15, 16, 17, 18, 19, 20, 21, 22, 23, 24, 25, 26, 27, 28, 29, 30, 31, 32, 33, 34, 35] 0 4 (b := m 0) rfl rfl (As := [.int (xs (4 * q + 1))]) (rest := [.int r1]) (wr := W5d cy b g h j z u1) (wf := fun M1 => LWd cy cz b g h j z m u1 M1) dL_law_445 gL_law_X4_count rfl dmX4_count ⟨rfl, rfl, (Nat.le_of_ble_eq_true rfl), (Nat.le_of_ble_eq_true rfl), (Nat.le_of_ble_eq_true rfl), (Nat.le_of_ble_eq_true rfl)⟩ (c_X4_count l D cy cz m M T (xs (4 * q + 1)) hy) ⟨rfl, rfl, rfl, rfl, by decide, rfl, fun _ => rfl⟩ (Nat.le_of_ble_eq_true rfl) ?_
  rintro r2 M1 ⟨e2, hy1⟩
  show G x l room_1 D 4 36 14938 (LWd cy cz b g h j z m u1 M1) (lvL bb b m (4 * q)) [.int r2, .int r1] 448
  exact g_icmp_eq C (tgt := 453) dL_law_448 (by decide) (fun _ => tail _ _ _ hx1 hy1 (Nat.le_succ_of_le hN)) (fun ne => absurd (e1.trans e2.symm) ne)
end LA
