/-! made by wip/whole/gen.py and m1.py -/
theorem min_nI {a b : Nat} (ha : a < 2 ^ 31) (hb : b < 2 ^ 31) : (if nI b < nI a then nI b else nI a) = nI (min a b) := by
  by_cases h : b < a
  · rw [if_pos (nI_lt h ha), Nat.min_eq_right (by omega)]
  · rw [if_neg (fun w => h ((nI_ltI hb ha).mp w)), Nat.min_eq_left (by omega)]
theorem min_take (l : List Nat) (n : Nat) : l.take (min n l.length) = l.take n := by
  rw [← List.take_take, List.take_length]
theorem mX1_isOpen_f28 : Cond.fieldLink RX1 28 (TX1 6).1 (TX1 6).2.1 (TX1 6).2.2.1 ∈ wsX1_isOpen := List.mem_of_getElem? (i := 1) rfl
theorem iX1_isOpen_X1 : ∀ w ∈ wsX10, w ∈ wsX1_isOpen := by decide +kernel
set_option maxHeartbeats 1600000 in
set_option maxRecDepth 20000 in
theorem c_X1_isOpen (l : Launch) (D : va_G) (cy cz : ClassId) (j : Nat → Nat) (J : Mem) (hb : J 0 2 = 0 ∨ J 0 2 = 1) : MId l yX1_isOpen wsX1_isOpen (rmF 0 0) D (tyL cy cz) [.ref (j 0)] (wJ cy j J) (J 0 2) (wJ cy j J) := by
  refine g_entZ (cc := cX1_isOpen) (maxL := 1) (own := RX1) (by decide) rfl rfl (Nat.le_of_ble_eq_true rfl) (fun x C ret => ?_)
  show G x l (rmF 0 0) D 1 0 0 (wJ cy j J) [(0, .ref (j 0))] [] 0
  refine g_aload_n C dX1_isOpen_0 0 rfl rfl ?_
  refine g_get C 0 (f := 6) (v := .int (J 0 2)) (Cn := RX1) (T := TX1) (N := 8) dX1_isOpen_1 rfl rfl iX1_isOpen_X1 (by decide) mX1_isOpen_f28 rfl ?_
  exact ret _ () _ _ dX1_isOpen_4 (by rcases hb with w | w <;> rw [w] <;> rfl) rfl

theorem mX1_endGroupHere_f32 : Cond.fieldLink RX1 32 (TX1 5).1 (TX1 5).2.1 (TX1 5).2.2.1 ∈ wsX1_endGroupHere := List.mem_of_getElem? (i := 1) rfl
theorem iX1_endGroupHere_X1 : ∀ w ∈ wsX10, w ∈ wsX1_endGroupHere := by decide +kernel
theorem mX1_endGroupHere_f21 : Cond.fieldLink RX1 21 (TX1 3).1 (TX1 3).2.1 (TX1 3).2.2.1 ∈ wsX1_endGroupHere := List.mem_of_getElem? (i := 2) rfl
theorem mX1_endGroupHere_f24 : Cond.fieldLink RX1 24 (TX1 4).1 (TX1 4).2.1 (TX1 4).2.2.1 ∈ wsX1_endGroupHere := List.mem_of_getElem? (i := 3) rfl
set_option maxHeartbeats 1600000 in
set_option maxRecDepth 20000 in
theorem c_X1_endGroupHere (l : Launch) (D : va_G) (cy cz : ClassId) (j : Nat → Nat) (J : Mem) (k : Nat) (he : J 0 1 = nI k) (hk : k < 64) : MVd l yX1_endGroupHere wsX1_endGroupHere (rmF 0 0) D (tyL cy cz) [.ref (j 0)] (wJ cy j J) (wJ cy j (ps (ps J 4 k (J 0 0)) 0 1 (nI (k + 1)))) := by
  refine g_entV (cc := cX1_endGroupHere) (maxL := 1) (own := RX1) (by decide) rfl rfl (Nat.le_of_ble_eq_true rfl) (fun x C ret => ?_)
  show G x l (rmF 0 0) D 1 0 0 (wJ cy j J) [(0, .ref (j 0))] [] 0
  refine g_aload_n C dX1_endGroupHere_0 0 rfl rfl ?_
  refine g_get C 0 (f := 5) (v := .int (J 0 1)) (Cn := RX1) (T := TX1) (N := 8) dX1_endGroupHere_1 rfl rfl iX1_endGroupHere_X1 (by decide) mX1_endGroupHere_f32 rfl ?_
  refine g_top (b := nI k) (he) ?_
  refine g_if_lt C (tgt := 39) dX1_endGroupHere_4 (by decide) (fun c1 => ?_) (fun c1 => ?_)
  · skip
    exact absurd c1 (nI_pos (by omega))
  · skip
    refine g_aload_n C dX1_endGroupHere_7 0 rfl rfl ?_
    refine g_get C 0 (f := 5) (v := .int (J 0 1)) (Cn := RX1) (T := TX1) (N := 8) dX1_endGroupHere_8 rfl rfl iX1_endGroupHere_X1 (by decide) mX1_endGroupHere_f32 rfl ?_
    refine g_top (b := nI k) (he) ?_
    refine g_bipush C (v := 64) dX1_endGroupHere_11 (by decide) ?_
    refine g_icmp_ge C (tgt := 39) dX1_endGroupHere_13 (by decide) (fun c2 => ?_) (fun c2 => ?_)
    · skip
      exact absurd c2 (nI_ge hk (by decide))
    · skip
      refine g_aload_n C dX1_endGroupHere_16 0 rfl rfl ?_
      refine g_get C 0 (f := 3) (v := .ref (j 4)) (Cn := RX1) (T := TX1) (N := 8) dX1_endGroupHere_17 rfl rfl iX1_endGroupHere_X1 (by decide) mX1_endGroupHere_f21 rfl ?_
      refine g_aload_n C dX1_endGroupHere_20 0 rfl rfl ?_
      refine g_get C 0 (f := 5) (v := .int (J 0 1)) (Cn := RX1) (T := TX1) (N := 8) dX1_endGroupHere_21 rfl rfl iX1_endGroupHere_X1 (by decide) mX1_endGroupHere_f32 rfl ?_
      refine g_top (b := nI k) (he) ?_
      refine g_aload_n C dX1_endGroupHere_24 0 rfl rfl ?_
      refine g_get C 0 (f := 4) (v := .int (J 0 0)) (Cn := RX1) (T := TX1) (N := 8) dX1_endGroupHere_25 rfl rfl iX1_endGroupHere_X1 (by decide) mX1_endGroupHere_f24 rfl ?_
      refine g_iast C 4 0 (f := J 4) (N := 64) (ws' := (wJ cy j (ps J 4 k (J 0 0)))) k dX1_endGroupHere_28 rfl rfl (by decide) (rfl) (hk) (wJ_a4 cy j J k (J 0 0)) ?_
      refine g_aload_n C dX1_endGroupHere_29 0 rfl rfl ?_
      refine g_dup C dX1_endGroupHere_30 rfl ?_
      refine g_get C 0 (f := 5) (v := .int (J 0 1)) (Cn := RX1) (T := TX1) (N := 8) dX1_endGroupHere_31 rfl rfl iX1_endGroupHere_X1 (by decide) mX1_endGroupHere_f32 rfl ?_
      refine g_top (b := nI k) (he) ?_
      refine g_iconst C (v := 1) dX1_endGroupHere_34 (by decide) ?_
      refine g_iadd C dX1_endGroupHere_35 ?_
      refine g_top (b := nI (k + 1)) (nI_1 k) ?_
      refine g_put C 0 (f := 5) (v := .int (nI (k + 1))) (ty := .int) (Cn := RX1) (T := TX1) (N := 8) (ws' := (wJ cy j (ps (ps J 4 k (J 0 0)) 0 1 (nI (k + 1))))) dX1_endGroupHere_36 rfl rfl iX1_endGroupHere_X1 tyX1 tyX1_ok nmX1 (by decide) mX1_endGroupHere_f32 rfl rfl (rfl) (rfl) (Nat.le_of_ble_eq_true rfl) (wJ_s1 cy j (ps J 4 k (J 0 0)) (nI (k + 1))) ?_
      exact ret () _ _ dX1_endGroupHere_39 trivial

theorem mX1_note_f24 : Cond.fieldLink RX1 24 (TX1 4).1 (TX1 4).2.1 (TX1 4).2.2.1 ∈ wsX1_note := List.mem_of_getElem? (i := 1) rfl
theorem iX1_note_X1 : ∀ w ∈ wsX10, w ∈ wsX1_note := by decide +kernel
theorem mX1_note_f9 : Cond.fieldLink RX1 9 (TX1 0).1 (TX1 0).2.1 (TX1 0).2.2.1 ∈ wsX1_note := List.mem_of_getElem? (i := 2) rfl
theorem mX1_note_f15 : Cond.fieldLink RX1 15 (TX1 1).1 (TX1 1).2.1 (TX1 1).2.2.1 ∈ wsX1_note := List.mem_of_getElem? (i := 3) rfl
theorem mX1_note_f18 : Cond.fieldLink RX1 18 (TX1 2).1 (TX1 2).2.1 (TX1 2).2.2.1 ∈ wsX1_note := List.mem_of_getElem? (i := 4) rfl
theorem mX1_note_f28 : Cond.fieldLink RX1 28 (TX1 6).1 (TX1 6).2.1 (TX1 6).2.2.1 ∈ wsX1_note := List.mem_of_getElem? (i := 5) rfl
set_option maxHeartbeats 1600000 in
set_option maxRecDepth 20000 in
theorem c_X1_note (l : Launch) (D : va_G) (cy cz : ClassId) (j : Nat → Nat) (J : Mem) (w : List LE) (gs : List Nat) (op : Option Nat) (kind : Int32) (key : Int32) (value : Int32) (o : Option Int32) (hj : RJ J w gs op) (hl : w.length < 64) (hk : kOf o kind value) : MV l yX1_note wsX1_note (rmF 1 36) D (tyL cy cz) [.ref (j 0), .int kind, .int key, .int value] (wJ cy j J) (fun (J1 : Mem) => RJ J1 (w ++ [(key, o)]) (gsN gs op) (op.map (· + 1))) (fun J1 => (wJ cy j J1)) := by
  refine g_entV (cc := cX1_note) (maxL := 4) (own := RX1) (by decide) rfl rfl (Nat.le_of_ble_eq_true rfl) (fun x C ret => ?_)
  show G x l (rmF 1 36) D 4 0 0 (wJ cy j J) [(0, .ref (j 0)), (1, .int kind), (2, .int key), (3, .int value)] [] 0
  have hgl := hj.gl
  rcases op with _ | m
  · skip
    refine g_aload_n C dX1_note_0 0 rfl rfl ?_
    refine g_get C 0 (f := 4) (v := .int (J 0 0)) (Cn := RX1) (T := TX1) (N := 8) dX1_note_1 rfl rfl iX1_note_X1 (by decide) mX1_note_f24 rfl ?_
    refine g_top (b := nI w.length) (hj.1) ?_
    refine g_if_lt C (tgt := 16) dX1_note_4 (by decide) (fun c1 => ?_) (fun c1 => ?_)
    · skip
      exact absurd c1 (nI_pos (by omega))
    · skip
      refine g_aload_n C dX1_note_7 0 rfl rfl ?_
      refine g_get C 0 (f := 4) (v := .int (J 0 0)) (Cn := RX1) (T := TX1) (N := 8) dX1_note_8 rfl rfl iX1_note_X1 (by decide) mX1_note_f24 rfl ?_
      refine g_top (b := nI w.length) (hj.1) ?_
      refine g_bipush C (v := 64) dX1_note_11 (by decide) ?_
      refine g_icmp_lt C (tgt := 17) dX1_note_13 (by decide) (fun c2 => ?_) (fun c2 => ?_)
      · skip
        refine g_aload_n C dX1_note_17 0 rfl rfl ?_
        refine g_get C 0 (f := 0) (v := .ref (j 1)) (Cn := RX1) (T := TX1) (N := 8) dX1_note_18 rfl rfl iX1_note_X1 (by decide) mX1_note_f9 rfl ?_
        refine g_aload_n C dX1_note_21 0 rfl rfl ?_
        refine g_get C 0 (f := 4) (v := .int (J 0 0)) (Cn := RX1) (T := TX1) (N := 8) dX1_note_22 rfl rfl iX1_note_X1 (by decide) mX1_note_f24 rfl ?_
        refine g_top (b := nI w.length) (hj.1) ?_
        refine g_iload_n C dX1_note_25 1 rfl rfl ?_
        refine g_iast C 1 0 (f := J 1) (N := 64) (ws' := (wJ cy j (ps J 1 w.length kind))) w.length dX1_note_26 rfl rfl (by decide) (rfl) (hl) (wJ_a1 cy j J w.length kind) ?_
        refine g_aload_n C dX1_note_27 0 rfl rfl ?_
        refine g_get C 0 (f := 1) (v := .ref (j 2)) (Cn := RX1) (T := TX1) (N := 8) dX1_note_28 rfl rfl iX1_note_X1 (by decide) mX1_note_f15 rfl ?_
        refine g_aload_n C dX1_note_31 0 rfl rfl ?_
        refine g_get C 0 (f := 4) (v := .int (J 0 0)) (Cn := RX1) (T := TX1) (N := 8) dX1_note_32 rfl rfl iX1_note_X1 (by decide) mX1_note_f24 rfl ?_
        refine g_top (b := nI w.length) (hj.1) ?_
        refine g_iload_n C dX1_note_35 2 rfl rfl ?_
        refine g_iast C 2 0 (f := (ps J 1 w.length kind) 2) (N := 64) (ws' := (wJ cy j (ps (ps J 1 w.length kind) 2 w.length key))) w.length dX1_note_36 rfl rfl (by decide) (rfl) (hl) (wJ_a2 cy j (ps J 1 w.length kind) w.length key) ?_
        refine g_aload_n C dX1_note_37 0 rfl rfl ?_
        refine g_get C 0 (f := 2) (v := .ref (j 3)) (Cn := RX1) (T := TX1) (N := 8) dX1_note_38 rfl rfl iX1_note_X1 (by decide) mX1_note_f18 rfl ?_
        refine g_aload_n C dX1_note_41 0 rfl rfl ?_
        refine g_get C 0 (f := 4) (v := .int (J 0 0)) (Cn := RX1) (T := TX1) (N := 8) dX1_note_42 rfl rfl iX1_note_X1 (by decide) mX1_note_f24 rfl ?_
        refine g_top (b := nI w.length) (hj.1) ?_
        refine g_iload_n C dX1_note_45 3 rfl rfl ?_
        refine g_iast C 3 0 (f := (ps (ps J 1 w.length kind) 2 w.length key) 3) (N := 64) (ws' := (wJ cy j (ps (ps (ps J 1 w.length kind) 2 w.length key) 3 w.length value))) w.length dX1_note_46 rfl rfl (by decide) (rfl) (hl) (wJ_a3 cy j (ps (ps J 1 w.length kind) 2 w.length key) w.length value) ?_
        refine g_aload_n C dX1_note_47 0 rfl rfl ?_
        refine g_dup C dX1_note_48 rfl ?_
        refine g_get C 0 (f := 4) (v := .int (J 0 0)) (Cn := RX1) (T := TX1) (N := 8) dX1_note_49 rfl rfl iX1_note_X1 (by decide) mX1_note_f24 rfl ?_
        refine g_top (b := nI w.length) (hj.1) ?_
        refine g_iconst C (v := 1) dX1_note_52 (by decide) ?_
        refine g_iadd C dX1_note_53 ?_
        refine g_top (b := nI (w.length + 1)) (nI_1 _) ?_
        refine g_put C 0 (f := 4) (v := .int (nI (w.length + 1))) (ty := .int) (Cn := RX1) (T := TX1) (N := 8) (ws' := (wJ cy j (ps (ps (ps (ps J 1 w.length kind) 2 w.length key) 3 w.length value) 0 0 (nI (w.length + 1))))) dX1_note_54 rfl rfl iX1_note_X1 tyX1 tyX1_ok nmX1 (by decide) mX1_note_f24 rfl rfl (rfl) (rfl) (Nat.le_of_ble_eq_true rfl) (wJ_s0 cy j (ps (ps (ps J 1 w.length kind) 2 w.length key) 3 w.length value) (nI (w.length + 1))) ?_
        refine g_aload_n C dX1_note_57 0 rfl rfl ?_
        refine g_get C 0 (f := 6) (v := .int (J 0 2)) (Cn := RX1) (T := TX1) (N := 8) dX1_note_58 rfl rfl iX1_note_X1 (by decide) mX1_note_f28 rfl ?_
        refine g_top (b := 0) (hj.op) ?_
        refine g_if_ne C (tgt := 68) dX1_note_61 (by decide) (fun c3 => ?_) (fun c3 => ?_)
        · skip
          exact absurd rfl (c3)
        · skip
          refine g_aload_n C dX1_note_64 0 rfl rfl ?_
          refine g_callVV C [0, 1, 2, 3, 4] [] [0, 1, 2, 3, 4] 0 1 (b := j 0) rfl rfl (As := []) (rest := []) (wr := ([] : va_W)) (wf := fun _ => (wJ cy j (ps (ps (ps (ps (ps (ps J 1 w.length kind) 2 w.length key) 3 w.length value) 0 0 (nI (w.length + 1))) 4 gs.length ((ps (ps (ps (ps J 1 w.length kind) 2 w.length key) 3 w.length value) 0 0 (nI (w.length + 1))) 0 0)) 0 1 (nI (gs.length + 1))))) dX1_note_65 gX1_note_X1_endGroupHere rfl dmX1_endGroupHere ⟨rfl, rfl, Nat.le_of_ble_eq_true rfl, Nat.le_of_ble_eq_true rfl, Nat.zero_le _, Nat.zero_le _⟩ (c_X1_endGroupHere l D cy cz j (ps (ps (ps (ps J 1 w.length kind) 2 w.length key) 3 w.length value) 0 0 (nI (w.length + 1))) gs.length hj.2.2.2.2.1 (by omega)) ⟨rfl, rfl, rfl, rfl, by decide, rfl, fun _ => rfl⟩ (Nat.le_of_ble_eq_true rfl) ?_
          rintro - -
          show G x l (rmF 1 36) D 4 0 0 (wJ cy j (ps (ps (ps (ps (ps (ps J 1 w.length kind) 2 w.length key) 3 w.length value) 0 0 (nI (w.length + 1))) 4 gs.length ((ps (ps (ps (ps J 1 w.length kind) 2 w.length key) 3 w.length value) 0 0 (nI (w.length + 1))) 0 0)) 0 1 (nI (gs.length + 1)))) [(0, .ref (j 0)), (1, .int kind), (2, .int key), (3, .int value)] [] 68
          exact ret (ps (ps (ps (ps (ps (ps J 1 w.length kind) 2 w.length key) 3 w.length value) 0 0 (nI (w.length + 1))) 4 gs.length ((ps (ps (ps (ps J 1 w.length kind) 2 w.length key) 3 w.length value) 0 0 (nI (w.length + 1))) 0 0)) 0 1 (nI (gs.length + 1))) _ _ dX1_note_68 (RJ_note_none hj hl hk)
      · skip
        exact absurd (nI_lt (a := w.length) (b := 64) hl (by decide)) (c2)
  · skip
    refine g_aload_n C dX1_note_0 0 rfl rfl ?_
    refine g_get C 0 (f := 4) (v := .int (J 0 0)) (Cn := RX1) (T := TX1) (N := 8) dX1_note_1 rfl rfl iX1_note_X1 (by decide) mX1_note_f24 rfl ?_
    refine g_top (b := nI w.length) (hj.1) ?_
    refine g_if_lt C (tgt := 16) dX1_note_4 (by decide) (fun c1 => ?_) (fun c1 => ?_)
    · skip
      exact absurd c1 (nI_pos (by omega))
    · skip
      refine g_aload_n C dX1_note_7 0 rfl rfl ?_
      refine g_get C 0 (f := 4) (v := .int (J 0 0)) (Cn := RX1) (T := TX1) (N := 8) dX1_note_8 rfl rfl iX1_note_X1 (by decide) mX1_note_f24 rfl ?_
      refine g_top (b := nI w.length) (hj.1) ?_
      refine g_bipush C (v := 64) dX1_note_11 (by decide) ?_
      refine g_icmp_lt C (tgt := 17) dX1_note_13 (by decide) (fun c2 => ?_) (fun c2 => ?_)
      · skip
        refine g_aload_n C dX1_note_17 0 rfl rfl ?_
        refine g_get C 0 (f := 0) (v := .ref (j 1)) (Cn := RX1) (T := TX1) (N := 8) dX1_note_18 rfl rfl iX1_note_X1 (by decide) mX1_note_f9 rfl ?_
        refine g_aload_n C dX1_note_21 0 rfl rfl ?_
        refine g_get C 0 (f := 4) (v := .int (J 0 0)) (Cn := RX1) (T := TX1) (N := 8) dX1_note_22 rfl rfl iX1_note_X1 (by decide) mX1_note_f24 rfl ?_
        refine g_top (b := nI w.length) (hj.1) ?_
        refine g_iload_n C dX1_note_25 1 rfl rfl ?_
        refine g_iast C 1 0 (f := J 1) (N := 64) (ws' := (wJ cy j (ps J 1 w.length kind))) w.length dX1_note_26 rfl rfl (by decide) (rfl) (hl) (wJ_a1 cy j J w.length kind) ?_
        refine g_aload_n C dX1_note_27 0 rfl rfl ?_
        refine g_get C 0 (f := 1) (v := .ref (j 2)) (Cn := RX1) (T := TX1) (N := 8) dX1_note_28 rfl rfl iX1_note_X1 (by decide) mX1_note_f15 rfl ?_
        refine g_aload_n C dX1_note_31 0 rfl rfl ?_
        refine g_get C 0 (f := 4) (v := .int (J 0 0)) (Cn := RX1) (T := TX1) (N := 8) dX1_note_32 rfl rfl iX1_note_X1 (by decide) mX1_note_f24 rfl ?_
        refine g_top (b := nI w.length) (hj.1) ?_
        refine g_iload_n C dX1_note_35 2 rfl rfl ?_
        refine g_iast C 2 0 (f := (ps J 1 w.length kind) 2) (N := 64) (ws' := (wJ cy j (ps (ps J 1 w.length kind) 2 w.length key))) w.length dX1_note_36 rfl rfl (by decide) (rfl) (hl) (wJ_a2 cy j (ps J 1 w.length kind) w.length key) ?_
        refine g_aload_n C dX1_note_37 0 rfl rfl ?_
        refine g_get C 0 (f := 2) (v := .ref (j 3)) (Cn := RX1) (T := TX1) (N := 8) dX1_note_38 rfl rfl iX1_note_X1 (by decide) mX1_note_f18 rfl ?_
        refine g_aload_n C dX1_note_41 0 rfl rfl ?_
        refine g_get C 0 (f := 4) (v := .int (J 0 0)) (Cn := RX1) (T := TX1) (N := 8) dX1_note_42 rfl rfl iX1_note_X1 (by decide) mX1_note_f24 rfl ?_
        refine g_top (b := nI w.length) (hj.1) ?_
        refine g_iload_n C dX1_note_45 3 rfl rfl ?_
        refine g_iast C 3 0 (f := (ps (ps J 1 w.length kind) 2 w.length key) 3) (N := 64) (ws' := (wJ cy j (ps (ps (ps J 1 w.length kind) 2 w.length key) 3 w.length value))) w.length dX1_note_46 rfl rfl (by decide) (rfl) (hl) (wJ_a3 cy j (ps (ps J 1 w.length kind) 2 w.length key) w.length value) ?_
        refine g_aload_n C dX1_note_47 0 rfl rfl ?_
        refine g_dup C dX1_note_48 rfl ?_
        refine g_get C 0 (f := 4) (v := .int (J 0 0)) (Cn := RX1) (T := TX1) (N := 8) dX1_note_49 rfl rfl iX1_note_X1 (by decide) mX1_note_f24 rfl ?_
        refine g_top (b := nI w.length) (hj.1) ?_
        refine g_iconst C (v := 1) dX1_note_52 (by decide) ?_
        refine g_iadd C dX1_note_53 ?_
        refine g_top (b := nI (w.length + 1)) (nI_1 _) ?_
        refine g_put C 0 (f := 4) (v := .int (nI (w.length + 1))) (ty := .int) (Cn := RX1) (T := TX1) (N := 8) (ws' := (wJ cy j (ps (ps (ps (ps J 1 w.length kind) 2 w.length key) 3 w.length value) 0 0 (nI (w.length + 1))))) dX1_note_54 rfl rfl iX1_note_X1 tyX1 tyX1_ok nmX1 (by decide) mX1_note_f24 rfl rfl (rfl) (rfl) (Nat.le_of_ble_eq_true rfl) (wJ_s0 cy j (ps (ps (ps J 1 w.length kind) 2 w.length key) 3 w.length value) (nI (w.length + 1))) ?_
        refine g_aload_n C dX1_note_57 0 rfl rfl ?_
        refine g_get C 0 (f := 6) (v := .int (J 0 2)) (Cn := RX1) (T := TX1) (N := 8) dX1_note_58 rfl rfl iX1_note_X1 (by decide) mX1_note_f28 rfl ?_
        refine g_top (b := 1) (hj.op) ?_
        refine g_if_ne C (tgt := 68) dX1_note_61 (by decide) (fun c3 => ?_) (fun c3 => ?_)
        · skip
          exact ret (ps (ps (ps (ps J 1 w.length kind) 2 w.length key) 3 w.length value) 0 0 (nI (w.length + 1))) _ _ dX1_note_68 (RJ_note_some hj hl hk)
        · skip
          exact absurd c3 (by decide)
      · skip
        exact absurd (nI_lt (a := w.length) (b := 64) hl (by decide)) (c2)

theorem mX1_openGroup_f28 : Cond.fieldLink RX1 28 (TX1 6).1 (TX1 6).2.1 (TX1 6).2.2.1 ∈ wsX1_openGroup := List.mem_of_getElem? (i := 1) rfl
theorem iX1_openGroup_X1 : ∀ w ∈ wsX10, w ∈ wsX1_openGroup := by decide +kernel
theorem mX1_openGroup_f24 : Cond.fieldLink RX1 24 (TX1 4).1 (TX1 4).2.1 (TX1 4).2.2.1 ∈ wsX1_openGroup := List.mem_of_getElem? (i := 2) rfl
theorem mX1_openGroup_f35 : Cond.fieldLink RX1 35 (TX1 7).1 (TX1 7).2.1 (TX1 7).2.2.1 ∈ wsX1_openGroup := List.mem_of_getElem? (i := 3) rfl
set_option maxHeartbeats 1600000 in
set_option maxRecDepth 20000 in
theorem c_X1_openGroup (l : Launch) (D : va_G) (cy cz : ClassId) (j : Nat → Nat) (J : Mem) (w : List LE) (gs : List Nat) (hj : RJ J w gs none) : MV l yX1_openGroup wsX1_openGroup (rmF 0 0) D (tyL cy cz) [.ref (j 0)] (wJ cy j J) (fun (J1 : Mem) => RJ J1 w gs (some 0)) (fun J1 => (wJ cy j J1)) := by
  refine g_entV (cc := cX1_openGroup) (maxL := 1) (own := RX1) (by decide) rfl rfl (Nat.le_of_ble_eq_true rfl) (fun x C ret => ?_)
  show G x l (rmF 0 0) D 1 0 0 (wJ cy j J) [(0, .ref (j 0))] [] 0
  refine g_aload_n C dX1_openGroup_0 0 rfl rfl ?_
  refine g_iconst C (v := 1) dX1_openGroup_1 (by decide) ?_
  refine g_put C 0 (f := 6) (v := .int 1) (ty := .boolean) (Cn := RX1) (T := TX1) (N := 8) (ws' := (wJ cy j (ps J 0 2 1))) dX1_openGroup_2 rfl rfl iX1_openGroup_X1 tyX1 tyX1_ok nmX1 (by decide) mX1_openGroup_f28 rfl rfl (by decide) (by decide) (Nat.le_of_ble_eq_true rfl) (wJ_s2 cy j J 1) ?_
  refine g_aload_n C dX1_openGroup_5 0 rfl rfl ?_
  refine g_aload_n C dX1_openGroup_6 0 rfl rfl ?_
  refine g_get C 0 (f := 4) (v := .int (J 0 0)) (Cn := RX1) (T := TX1) (N := 8) dX1_openGroup_7 rfl rfl iX1_openGroup_X1 (by decide) mX1_openGroup_f24 rfl ?_
  refine g_top (b := nI w.length) (hj.1) ?_
  refine g_put C 0 (f := 7) (v := .int (nI w.length)) (ty := .int) (Cn := RX1) (T := TX1) (N := 8) (ws' := (wJ cy j (ps (ps J 0 2 1) 0 3 (nI w.length)))) dX1_openGroup_10 rfl rfl iX1_openGroup_X1 tyX1 tyX1_ok nmX1 (by decide) mX1_openGroup_f35 rfl rfl (rfl) (rfl) (Nat.le_of_ble_eq_true rfl) (wJ_s3 cy j (ps J 0 2 1) (nI w.length)) ?_
  exact ret (ps (ps J 0 2 1) 0 3 (nI w.length)) _ _ dX1_openGroup_13 (RJ_open hj)

theorem mX1_closeGroup_f28 : Cond.fieldLink RX1 28 (TX1 6).1 (TX1 6).2.1 (TX1 6).2.2.1 ∈ wsX1_closeGroup := List.mem_of_getElem? (i := 1) rfl
theorem iX1_closeGroup_X1 : ∀ w ∈ wsX10, w ∈ wsX1_closeGroup := by decide +kernel
set_option maxHeartbeats 1600000 in
set_option maxRecDepth 20000 in
theorem c_X1_closeGroup (l : Launch) (D : va_G) (cy cz : ClassId) (j : Nat → Nat) (J : Mem) (w : List LE) (gs : List Nat) (m : Nat) (hj : RJ J w gs (some m)) : MV l yX1_closeGroup wsX1_closeGroup (rmF 1 36) D (tyL cy cz) [.ref (j 0)] (wJ cy j J) (fun (J1 : Mem) => RJ J1 w (if m = 0 then gs else gs ++ [m]) none) (fun J1 => (wJ cy j J1)) := by
  refine g_entV (cc := cX1_closeGroup) (maxL := 1) (own := RX1) (by decide) rfl rfl (Nat.le_of_ble_eq_true rfl) (fun x C ret => ?_)
  show G x l (rmF 1 36) D 1 0 0 (wJ cy j J) [(0, .ref (j 0))] [] 0
  have hgl := hj.gl
  have h2 : w.length = gs.sum + m := hj.2.1
  refine g_aload_n C dX1_closeGroup_0 0 rfl rfl ?_
  refine g_callIV C [0, 1, 2, 3, 4] [] [0, 1, 2, 3, 4] 0 1 (b := j 0) rfl rfl (As := []) (rest := []) (wr := ([] : va_W)) (wf := fun _ => (wJ cy j J)) dX1_closeGroup_1 gX1_closeGroup_X1_openWrites rfl dmX1_openWrites ⟨rfl, rfl, Nat.le_of_ble_eq_true rfl, Nat.le_of_ble_eq_true rfl, Nat.zero_le _, Nat.zero_le _⟩ (c_X1_openWrites l D cy cz j J) ⟨rfl, rfl, rfl, rfl, by decide, rfl, fun _ => rfl⟩ (Nat.le_of_ble_eq_true rfl) ?_
  rintro _ - rfl
  show G x l (rmF 1 36) D 1 0 0 (wJ cy j J) [(0, .ref (j 0))] [.int (if J 0 2 = 0 then 0 else J 0 0 - J 0 3)] 4
  refine g_top (b := nI m) (by rw [if_neg (by rw [show J 0 2 = 1 from hj.op]; decide), hj.1, hj.2.2.2.2.2.2.2.2, pk_sub hgl.2.1]; congr 1; omega) ?_
  refine g_if_le C (tgt := 11) dX1_closeGroup_4 (by decide) (fun c1 => ?_) (fun c1 => ?_)
  · skip
    have hm : m = 0 := by have := (nI_leI (b := 0) (by omega) (by decide)).mp c1; omega
    refine g_aload_n C dX1_closeGroup_11 0 rfl rfl ?_
    refine g_iconst C (v := 0) dX1_closeGroup_12 (by decide) ?_
    refine g_put C 0 (f := 6) (v := .int 0) (ty := .boolean) (Cn := RX1) (T := TX1) (N := 8) (ws' := (wJ cy j (ps J 0 2 0))) dX1_closeGroup_13 rfl rfl iX1_closeGroup_X1 tyX1 tyX1_ok nmX1 (by decide) mX1_closeGroup_f28 rfl rfl (by decide) (by decide) (Nat.le_of_ble_eq_true rfl) (wJ_s2 cy j J 0) ?_
    exact ret (ps J 0 2 0) _ _ dX1_closeGroup_16 (by rw [if_pos hm]; subst hm; exact RJ_close0 hj)
  · skip
    have hm : ¬ m = 0 := fun w => c1 (by rw [w]; decide)
    refine g_aload_n C dX1_closeGroup_7 0 rfl rfl ?_
    refine g_callVV C [0, 1, 2, 3, 4] [] [0, 1, 2, 3, 4] 0 1 (b := j 0) rfl rfl (As := []) (rest := []) (wr := ([] : va_W)) (wf := fun _ => (wJ cy j (ps (ps J 4 gs.length (J 0 0)) 0 1 (nI (gs.length + 1))))) dX1_closeGroup_8 gX1_closeGroup_X1_endGroupHere rfl dmX1_endGroupHere ⟨rfl, rfl, Nat.le_of_ble_eq_true rfl, Nat.le_of_ble_eq_true rfl, Nat.zero_le _, Nat.zero_le _⟩ (c_X1_endGroupHere l D cy cz j J gs.length hj.2.2.2.2.1 (by omega)) ⟨rfl, rfl, rfl, rfl, by decide, rfl, fun _ => rfl⟩ (Nat.le_of_ble_eq_true rfl) ?_
    rintro - -
    show G x l (rmF 1 36) D 1 0 0 (wJ cy j (ps (ps J 4 gs.length (J 0 0)) 0 1 (nI (gs.length + 1)))) [(0, .ref (j 0))] [] 11
    refine g_aload_n C dX1_closeGroup_11 0 rfl rfl ?_
    refine g_iconst C (v := 0) dX1_closeGroup_12 (by decide) ?_
    refine g_put C 0 (f := 6) (v := .int 0) (ty := .boolean) (Cn := RX1) (T := TX1) (N := 8) (ws' := (wJ cy j (ps (ps (ps J 4 gs.length (J 0 0)) 0 1 (nI (gs.length + 1))) 0 2 0))) dX1_closeGroup_13 rfl rfl iX1_closeGroup_X1 tyX1 tyX1_ok nmX1 (by decide) mX1_closeGroup_f28 rfl rfl (by decide) (by decide) (Nat.le_of_ble_eq_true rfl) (wJ_s2 cy j (ps (ps J 4 gs.length (J 0 0)) 0 1 (nI (gs.length + 1))) 0) ?_
    exact ret (ps (ps (ps J 4 gs.length (J 0 0)) 0 1 (nI (gs.length + 1))) 0 2 0) _ _ dX1_closeGroup_16 (by rw [if_neg hm]; have hh := RJ_close hj (by omega); rw [← hj.1] at hh; exact hh)

theorem mX1_dropOpenGroup_f28 : Cond.fieldLink RX1 28 (TX1 6).1 (TX1 6).2.1 (TX1 6).2.2.1 ∈ wsX1_dropOpenGroup := List.mem_of_getElem? (i := 1) rfl
theorem iX1_dropOpenGroup_X1 : ∀ w ∈ wsX10, w ∈ wsX1_dropOpenGroup := by decide +kernel
theorem mX1_dropOpenGroup_f35 : Cond.fieldLink RX1 35 (TX1 7).1 (TX1 7).2.1 (TX1 7).2.2.1 ∈ wsX1_dropOpenGroup := List.mem_of_getElem? (i := 2) rfl
theorem mX1_dropOpenGroup_f24 : Cond.fieldLink RX1 24 (TX1 4).1 (TX1 4).2.1 (TX1 4).2.2.1 ∈ wsX1_dropOpenGroup := List.mem_of_getElem? (i := 3) rfl
set_option maxHeartbeats 1600000 in
set_option maxRecDepth 20000 in
theorem c_X1_dropOpenGroup (l : Launch) (D : va_G) (cy cz : ClassId) (j : Nat → Nat) (J : Mem) (w : List LE) (gs : List Nat) (m : Nat) (hj : RJ J w gs (some m)) : MV l yX1_dropOpenGroup wsX1_dropOpenGroup (rmF 0 0) D (tyL cy cz) [.ref (j 0)] (wJ cy j J) (fun (J1 : Mem) => RJ J1 (w.take gs.sum) gs none) (fun J1 => (wJ cy j J1)) := by
  refine g_entV (cc := cX1_dropOpenGroup) (maxL := 1) (own := RX1) (by decide) rfl rfl (Nat.le_of_ble_eq_true rfl) (fun x C ret => ?_)
  show G x l (rmF 0 0) D 1 0 0 (wJ cy j J) [(0, .ref (j 0))] [] 0
  refine g_aload_n C dX1_dropOpenGroup_0 0 rfl rfl ?_
  refine g_get C 0 (f := 6) (v := .int (J 0 2)) (Cn := RX1) (T := TX1) (N := 8) dX1_dropOpenGroup_1 rfl rfl iX1_dropOpenGroup_X1 (by decide) mX1_dropOpenGroup_f28 rfl ?_
  refine g_top (b := 1) (hj.op) ?_
  refine g_if_eq C (tgt := 20) dX1_dropOpenGroup_4 (by decide) (fun c1 => ?_) (fun c1 => ?_)
  · skip
    exact absurd c1 (by decide)
  · skip
    refine g_aload_n C dX1_dropOpenGroup_7 0 rfl rfl ?_
    refine g_aload_n C dX1_dropOpenGroup_8 0 rfl rfl ?_
    refine g_get C 0 (f := 7) (v := .int (J 0 3)) (Cn := RX1) (T := TX1) (N := 8) dX1_dropOpenGroup_9 rfl rfl iX1_dropOpenGroup_X1 (by decide) mX1_dropOpenGroup_f35 rfl ?_
    refine g_top (b := nI gs.sum) (hj.2.2.2.2.2.2.2.2) ?_
    refine g_put C 0 (f := 4) (v := .int (nI gs.sum)) (ty := .int) (Cn := RX1) (T := TX1) (N := 8) (ws' := (wJ cy j (ps J 0 0 (nI gs.sum)))) dX1_dropOpenGroup_12 rfl rfl iX1_dropOpenGroup_X1 tyX1 tyX1_ok nmX1 (by decide) mX1_dropOpenGroup_f24 rfl rfl (rfl) (rfl) (Nat.le_of_ble_eq_true rfl) (wJ_s0 cy j J (nI gs.sum)) ?_
    refine g_aload_n C dX1_dropOpenGroup_15 0 rfl rfl ?_
    refine g_iconst C (v := 0) dX1_dropOpenGroup_16 (by decide) ?_
    refine g_put C 0 (f := 6) (v := .int 0) (ty := .boolean) (Cn := RX1) (T := TX1) (N := 8) (ws' := (wJ cy j (ps (ps J 0 0 (nI gs.sum)) 0 2 0))) dX1_dropOpenGroup_17 rfl rfl iX1_dropOpenGroup_X1 tyX1 tyX1_ok nmX1 (by decide) mX1_dropOpenGroup_f28 rfl rfl (by decide) (by decide) (Nat.le_of_ble_eq_true rfl) (wJ_s2 cy j (ps J 0 0 (nI gs.sum)) 0) ?_
    exact ret (ps (ps J 0 0 (nI gs.sum)) 0 2 0) _ _ dX1_dropOpenGroup_20 (RJ_drop hj)

theorem mX1_clear_f24 : Cond.fieldLink RX1 24 (TX1 4).1 (TX1 4).2.1 (TX1 4).2.2.1 ∈ wsX1_clear := List.mem_of_getElem? (i := 1) rfl
theorem iX1_clear_X1 : ∀ w ∈ wsX10, w ∈ wsX1_clear := by decide +kernel
theorem mX1_clear_f32 : Cond.fieldLink RX1 32 (TX1 5).1 (TX1 5).2.1 (TX1 5).2.2.1 ∈ wsX1_clear := List.mem_of_getElem? (i := 2) rfl
theorem mX1_clear_f28 : Cond.fieldLink RX1 28 (TX1 6).1 (TX1 6).2.1 (TX1 6).2.2.1 ∈ wsX1_clear := List.mem_of_getElem? (i := 3) rfl
set_option maxHeartbeats 1600000 in
set_option maxRecDepth 20000 in
theorem c_X1_clear (l : Launch) (D : va_G) (cy cz : ClassId) (j : Nat → Nat) (J : Mem) : MV l yX1_clear wsX1_clear (rmF 0 0) D (tyL cy cz) [.ref (j 0)] (wJ cy j J) (fun (J1 : Mem) => RJ J1 [] [] none) (fun J1 => (wJ cy j J1)) := by
  refine g_entV (cc := cX1_clear) (maxL := 1) (own := RX1) (by decide) rfl rfl (Nat.le_of_ble_eq_true rfl) (fun x C ret => ?_)
  show G x l (rmF 0 0) D 1 0 0 (wJ cy j J) [(0, .ref (j 0))] [] 0
  refine g_aload_n C dX1_clear_0 0 rfl rfl ?_
  refine g_iconst C (v := 0) dX1_clear_1 (by decide) ?_
  refine g_put C 0 (f := 4) (v := .int 0) (ty := .int) (Cn := RX1) (T := TX1) (N := 8) (ws' := (wJ cy j (ps J 0 0 0))) dX1_clear_2 rfl rfl iX1_clear_X1 tyX1 tyX1_ok nmX1 (by decide) mX1_clear_f24 rfl rfl (rfl) (rfl) (Nat.le_of_ble_eq_true rfl) (wJ_s0 cy j J 0) ?_
  refine g_aload_n C dX1_clear_5 0 rfl rfl ?_
  refine g_iconst C (v := 0) dX1_clear_6 (by decide) ?_
  refine g_put C 0 (f := 5) (v := .int 0) (ty := .int) (Cn := RX1) (T := TX1) (N := 8) (ws' := (wJ cy j (ps (ps J 0 0 0) 0 1 0))) dX1_clear_7 rfl rfl iX1_clear_X1 tyX1 tyX1_ok nmX1 (by decide) mX1_clear_f32 rfl rfl (rfl) (rfl) (Nat.le_of_ble_eq_true rfl) (wJ_s1 cy j (ps J 0 0 0) 0) ?_
  refine g_aload_n C dX1_clear_10 0 rfl rfl ?_
  refine g_iconst C (v := 0) dX1_clear_11 (by decide) ?_
  refine g_put C 0 (f := 6) (v := .int 0) (ty := .boolean) (Cn := RX1) (T := TX1) (N := 8) (ws' := (wJ cy j (ps (ps (ps J 0 0 0) 0 1 0) 0 2 0))) dX1_clear_12 rfl rfl iX1_clear_X1 tyX1 tyX1_ok nmX1 (by decide) mX1_clear_f28 rfl rfl (by decide) (by decide) (Nat.le_of_ble_eq_true rfl) (wJ_s2 cy j (ps (ps J 0 0 0) 0 1 0) 0) ?_
  exact ret (ps (ps (ps J 0 0 0) 0 1 0) 0 2 0) _ _ dX1_clear_15 (RJ_clear J)

theorem mX1_writesInFirstGroups_f32 : Cond.fieldLink RX1 32 (TX1 5).1 (TX1 5).2.1 (TX1 5).2.2.1 ∈ wsX1_writesInFirstGroups := List.mem_of_getElem? (i := 1) rfl
theorem iX1_writesInFirstGroups_X1 : ∀ w ∈ wsX10, w ∈ wsX1_writesInFirstGroups := by decide +kernel
theorem mX1_writesInFirstGroups_l45 : Cond.methodLink RX1 45 Lib.Math.min.name ∈ wsX1_writesInFirstGroups := List.mem_of_getElem? (i := 2) rfl
theorem mX1_writesInFirstGroups_s45 : Cond.static Lib.Math.min.name ∈ wsX1_writesInFirstGroups := List.mem_of_getElem? (i := 3) rfl
theorem mX1_writesInFirstGroups_i45 : Cond.initialized "java/lang/Math" ∈ wsX1_writesInFirstGroups := List.mem_of_getElem? (i := 4) rfl
theorem mX1_writesInFirstGroups_c45 : Cond.code Lib.Math.min.name Lib.Math.min.code 2 (some .int) ∈ wsX1_writesInFirstGroups := List.mem_of_getElem? (i := 5) rfl
theorem mX1_writesInFirstGroups_f21 : Cond.fieldLink RX1 21 (TX1 3).1 (TX1 3).2.1 (TX1 3).2.2.1 ∈ wsX1_writesInFirstGroups := List.mem_of_getElem? (i := 6) rfl
set_option maxHeartbeats 1600000 in
set_option maxRecDepth 20000 in
theorem c_X1_writesInFirstGroups (l : Launch) (D : va_G) (cy cz : ClassId) (j : Nat → Nat) (J : Mem) (w : List LE) (gs : List Nat) (op : Option Nat) (n : Nat) (hj : RJ J w gs op) (hn : n < 2 ^ 31) : MId l yX1_writesInFirstGroups wsX1_writesInFirstGroups (rmF 1 36) D (tyL cy cz) [.ref (j 0), .int (nI n)] (wJ cy j J) (nI (gs.take n).sum) (wJ cy j J) := by
  refine g_entI (cc := cX1_writesInFirstGroups) (maxL := 3) (own := RX1) (by decide) rfl rfl (Nat.le_of_ble_eq_true rfl) (fun x C ret => ?_)
  show G x l (rmF 1 36) D 3 0 0 (wJ cy j J) [(0, .ref (j 0)), (1, .int (nI n))] [] 0
  have hgl := hj.gl
  refine g_iload_n C dX1_writesInFirstGroups_0 1 rfl rfl ?_
  refine g_aload_n C dX1_writesInFirstGroups_1 0 rfl rfl ?_
  refine g_get C 0 (f := 5) (v := .int (J 0 1)) (Cn := RX1) (T := TX1) (N := 8) dX1_writesInFirstGroups_2 rfl rfl iX1_writesInFirstGroups_X1 (by decide) mX1_writesInFirstGroups_f32 rfl ?_
  refine g_top (b := nI gs.length) (hj.2.2.2.2.1) ?_
  refine g_min C dX1_writesInFirstGroups_5 mX1_writesInFirstGroups_l45 mX1_writesInFirstGroups_s45 mX1_writesInFirstGroups_i45 mX1_writesInFirstGroups_c45 (Nat.le_of_ble_eq_true rfl) (Nat.le_of_ble_eq_true rfl) (Nat.zero_le _) (Nat.zero_le _) ?_
  refine g_top (b := nI (min n gs.length)) (min_nI hn (by omega)) ?_
  refine g_istore_n C (lv' := [(2, .int (nI (min n gs.length))), (0, .ref (j 0)), (1, .int (nI n))]) dX1_writesInFirstGroups_8 rfl (by decide) rfl ?_
  refine g_iload_n C dX1_writesInFirstGroups_9 0 rfl rfl ?_
  refine g_if_le C (tgt := 30) dX1_writesInFirstGroups_10 (by decide) (fun c1 => ?_) (fun c1 => ?_)
  · skip
    have hm : min n gs.length = 0 := by have := (nI_leI (b := 0) (by omega) (by decide)).mp c1; omega
    refine g_iconst C (v := 0) dX1_writesInFirstGroups_30 (by decide) ?_
    exact ret _ () _ _ dX1_writesInFirstGroups_31 (congrArg nI (by rw [← min_take, hm]; rfl))
  · skip
    have hm : ¬ min n gs.length = 0 := fun w => c1 (by rw [w]; decide)
    refine g_iload_n C dX1_writesInFirstGroups_13 0 rfl rfl ?_
    refine g_bipush C (v := 64) dX1_writesInFirstGroups_14 (by decide) ?_
    refine g_icmp_gt C (tgt := 30) dX1_writesInFirstGroups_16 (by decide) (fun c2 => ?_) (fun c2 => ?_)
    · skip
      exact absurd c2 (fun w => absurd ((nI_ltI (a := 64) (by decide) (by omega)).mp w) (by omega))
    · skip
      refine g_aload_n C dX1_writesInFirstGroups_19 1 rfl rfl ?_
      refine g_get C 0 (f := 3) (v := .ref (j 4)) (Cn := RX1) (T := TX1) (N := 8) dX1_writesInFirstGroups_20 rfl rfl iX1_writesInFirstGroups_X1 (by decide) mX1_writesInFirstGroups_f21 rfl ?_
      refine g_iload_n C dX1_writesInFirstGroups_23 0 rfl rfl ?_
      refine g_iconst C (v := 1) dX1_writesInFirstGroups_24 (by decide) ?_
      refine g_isub C dX1_writesInFirstGroups_25 ?_
      refine g_top (b := nI (min n gs.length - 1)) (pk_sub (b := 1) (by omega)) ?_
      refine g_iald C 4 0 (f := J 4) (N := 64) (min n gs.length - 1) dX1_writesInFirstGroups_26 rfl rfl (by decide) (rfl) (by omega) ?_
      refine g_top (b := nI (gs.take n).sum) ((hj.2.2.2.2.2.2.1 _ (by omega)).trans (congrArg nI (by rw [show min n gs.length - 1 + 1 = min n gs.length by omega, ← List.take_take, List.take_length]))) ?_
      refine g_goto C (tgt := 31) dX1_writesInFirstGroups_27 (by decide) ?_
      exact ret _ () _ _ dX1_writesInFirstGroups_31 rfl

theorem mX1_isWrite_f24 : Cond.fieldLink RX1 24 (TX1 4).1 (TX1 4).2.1 (TX1 4).2.2.1 ∈ wsX1_isWrite := List.mem_of_getElem? (i := 1) rfl
theorem iX1_isWrite_X1 : ∀ w ∈ wsX10, w ∈ wsX1_isWrite := by decide +kernel
set_option maxHeartbeats 1600000 in
set_option maxRecDepth 20000 in
theorem c_X1_isWrite (l : Launch) (D : va_G) (cy cz : ClassId) (j : Nat → Nat) (J : Mem) (w : List LE) (gs : List Nat) (op : Option Nat) (i : Nat) (hj : RJ J w gs op) (hi : i < w.length) : MId l yX1_isWrite wsX1_isWrite (rmF 0 0) D (tyL cy cz) [.ref (j 0), .int (nI i)] (wJ cy j J) 1 (wJ cy j J) := by
  refine g_entZ (cc := cX1_isWrite) (maxL := 2) (own := RX1) (by decide) rfl rfl (Nat.le_of_ble_eq_true rfl) (fun x C ret => ?_)
  show G x l (rmF 0 0) D 2 0 0 (wJ cy j J) [(0, .ref (j 0)), (1, .int (nI i))] [] 0
  have hgl := hj.gl
  refine g_iload_n C dX1_isWrite_0 1 rfl rfl ?_
  refine g_if_lt C (tgt := 22) dX1_isWrite_1 (by decide) (fun c1 => ?_) (fun c1 => ?_)
  · skip
    exact absurd c1 (nI_pos (by omega))
  · skip
    refine g_iload_n C dX1_isWrite_4 1 rfl rfl ?_
    refine g_aload_n C dX1_isWrite_5 0 rfl rfl ?_
    refine g_get C 0 (f := 4) (v := .int (J 0 0)) (Cn := RX1) (T := TX1) (N := 8) dX1_isWrite_6 rfl rfl iX1_isWrite_X1 (by decide) mX1_isWrite_f24 rfl ?_
    refine g_top (b := nI w.length) (hj.1) ?_
    refine g_icmp_ge C (tgt := 22) dX1_isWrite_9 (by decide) (fun c2 => ?_) (fun c2 => ?_)
    · skip
      exact absurd c2 (nI_ge hi (by omega))
    · skip
      refine g_iload_n C dX1_isWrite_12 1 rfl rfl ?_
      refine g_bipush C (v := 64) dX1_isWrite_13 (by decide) ?_
      refine g_icmp_ge C (tgt := 22) dX1_isWrite_15 (by decide) (fun c3 => ?_) (fun c3 => ?_)
      · skip
        exact absurd c3 (nI_ge (b := 64) (by omega) (by decide))
      · skip
        refine g_iconst C (v := 1) dX1_isWrite_18 (by decide) ?_
        refine g_goto C (tgt := 23) dX1_isWrite_19 (by decide) ?_
        exact ret _ () _ _ dX1_isWrite_23 (by decide) rfl

theorem mX1_kindOf_f9 : Cond.fieldLink RX1 9 (TX1 0).1 (TX1 0).2.1 (TX1 0).2.2.1 ∈ wsX1_kindOf := List.mem_of_getElem? (i := 1) rfl
theorem iX1_kindOf_X1 : ∀ w ∈ wsX10, w ∈ wsX1_kindOf := by decide +kernel
set_option maxHeartbeats 1600000 in
set_option maxRecDepth 20000 in
theorem c_X1_kindOf (l : Launch) (D : va_G) (cy cz : ClassId) (j : Nat → Nat) (J : Mem) (w : List LE) (gs : List Nat) (op : Option Nat) (i : Nat) (hj : RJ J w gs op) (hi : i < w.length) : MId l yX1_kindOf wsX1_kindOf (rmF 1 36) D (tyL cy cz) [.ref (j 0), .int (nI i)] (wJ cy j J) (J 1 i) (wJ cy j J) := by
  refine g_entI (cc := cX1_kindOf) (maxL := 2) (own := RX1) (by decide) rfl rfl (Nat.le_of_ble_eq_true rfl) (fun x C ret => ?_)
  show G x l (rmF 1 36) D 2 0 0 (wJ cy j J) [(0, .ref (j 0)), (1, .int (nI i))] [] 0
  have hgl := hj.gl
  refine g_aload_n C dX1_kindOf_0 0 rfl rfl ?_
  refine g_iload_n C dX1_kindOf_1 1 rfl rfl ?_
  refine g_callIV C [0, 1, 2, 3, 4] [] [0, 1, 2, 3, 4] 0 1 (b := j 0) rfl rfl (As := [.int (nI i)]) (rest := []) (wr := ([] : va_W)) (wf := fun _ => (wJ cy j J)) dX1_kindOf_2 gX1_kindOf_X1_isWrite rfl dmX1_isWrite ⟨rfl, rfl, Nat.le_of_ble_eq_true rfl, Nat.le_of_ble_eq_true rfl, Nat.zero_le _, Nat.zero_le _⟩ (c_X1_isWrite l D cy cz j J w gs op i hj hi) ⟨rfl, rfl, rfl, rfl, by decide, rfl, fun _ => rfl⟩ (Nat.le_of_ble_eq_true rfl) ?_
  rintro _ - rfl
  show G x l (rmF 1 36) D 2 0 0 (wJ cy j J) [(0, .ref (j 0)), (1, .int (nI i))] [.int 1] 5
  refine g_if_eq C (tgt := 17) dX1_kindOf_5 (by decide) (fun c1 => ?_) (fun c1 => ?_)
  · skip
    exact absurd c1 (by decide)
  · skip
    refine g_aload_n C dX1_kindOf_8 0 rfl rfl ?_
    refine g_get C 0 (f := 0) (v := .ref (j 1)) (Cn := RX1) (T := TX1) (N := 8) dX1_kindOf_9 rfl rfl iX1_kindOf_X1 (by decide) mX1_kindOf_f9 rfl ?_
    refine g_iload_n C dX1_kindOf_12 1 rfl rfl ?_
    refine g_iald C 1 0 (f := J 1) (N := 64) i dX1_kindOf_13 rfl rfl (by decide) (rfl) (by omega) ?_
    refine g_goto C (tgt := 19) dX1_kindOf_14 (by decide) ?_
    exact ret _ () _ _ dX1_kindOf_19 rfl

theorem mX1_keyOf_f15 : Cond.fieldLink RX1 15 (TX1 1).1 (TX1 1).2.1 (TX1 1).2.2.1 ∈ wsX1_keyOf := List.mem_of_getElem? (i := 1) rfl
theorem iX1_keyOf_X1 : ∀ w ∈ wsX10, w ∈ wsX1_keyOf := by decide +kernel
set_option maxHeartbeats 1600000 in
set_option maxRecDepth 20000 in
theorem c_X1_keyOf (l : Launch) (D : va_G) (cy cz : ClassId) (j : Nat → Nat) (J : Mem) (w : List LE) (gs : List Nat) (op : Option Nat) (i : Nat) (hj : RJ J w gs op) (hi : i < w.length) : MId l yX1_keyOf wsX1_keyOf (rmF 1 36) D (tyL cy cz) [.ref (j 0), .int (nI i)] (wJ cy j J) (J 2 i) (wJ cy j J) := by
  refine g_entI (cc := cX1_keyOf) (maxL := 2) (own := RX1) (by decide) rfl rfl (Nat.le_of_ble_eq_true rfl) (fun x C ret => ?_)
  show G x l (rmF 1 36) D 2 0 0 (wJ cy j J) [(0, .ref (j 0)), (1, .int (nI i))] [] 0
  have hgl := hj.gl
  refine g_aload_n C dX1_keyOf_0 0 rfl rfl ?_
  refine g_iload_n C dX1_keyOf_1 1 rfl rfl ?_
  refine g_callIV C [0, 1, 2, 3, 4] [] [0, 1, 2, 3, 4] 0 1 (b := j 0) rfl rfl (As := [.int (nI i)]) (rest := []) (wr := ([] : va_W)) (wf := fun _ => (wJ cy j J)) dX1_keyOf_2 gX1_keyOf_X1_isWrite rfl dmX1_isWrite ⟨rfl, rfl, Nat.le_of_ble_eq_true rfl, Nat.le_of_ble_eq_true rfl, Nat.zero_le _, Nat.zero_le _⟩ (c_X1_isWrite l D cy cz j J w gs op i hj hi) ⟨rfl, rfl, rfl, rfl, by decide, rfl, fun _ => rfl⟩ (Nat.le_of_ble_eq_true rfl) ?_
  rintro _ - rfl
  show G x l (rmF 1 36) D 2 0 0 (wJ cy j J) [(0, .ref (j 0)), (1, .int (nI i))] [.int 1] 5
  refine g_if_eq C (tgt := 17) dX1_keyOf_5 (by decide) (fun c1 => ?_) (fun c1 => ?_)
  · skip
    exact absurd c1 (by decide)
  · skip
    refine g_aload_n C dX1_keyOf_8 0 rfl rfl ?_
    refine g_get C 0 (f := 1) (v := .ref (j 2)) (Cn := RX1) (T := TX1) (N := 8) dX1_keyOf_9 rfl rfl iX1_keyOf_X1 (by decide) mX1_keyOf_f15 rfl ?_
    refine g_iload_n C dX1_keyOf_12 1 rfl rfl ?_
    refine g_iald C 2 0 (f := J 2) (N := 64) i dX1_keyOf_13 rfl rfl (by decide) (rfl) (by omega) ?_
    refine g_goto C (tgt := 19) dX1_keyOf_14 (by decide) ?_
    exact ret _ () _ _ dX1_keyOf_19 rfl

theorem mX1_valueOf_f18 : Cond.fieldLink RX1 18 (TX1 2).1 (TX1 2).2.1 (TX1 2).2.2.1 ∈ wsX1_valueOf := List.mem_of_getElem? (i := 1) rfl
theorem iX1_valueOf_X1 : ∀ w ∈ wsX10, w ∈ wsX1_valueOf := by decide +kernel
set_option maxHeartbeats 1600000 in
set_option maxRecDepth 20000 in
theorem c_X1_valueOf (l : Launch) (D : va_G) (cy cz : ClassId) (j : Nat → Nat) (J : Mem) (w : List LE) (gs : List Nat) (op : Option Nat) (i : Nat) (hj : RJ J w gs op) (hi : i < w.length) : MId l yX1_valueOf wsX1_valueOf (rmF 1 36) D (tyL cy cz) [.ref (j 0), .int (nI i)] (wJ cy j J) (J 3 i) (wJ cy j J) := by
  refine g_entI (cc := cX1_valueOf) (maxL := 2) (own := RX1) (by decide) rfl rfl (Nat.le_of_ble_eq_true rfl) (fun x C ret => ?_)
  show G x l (rmF 1 36) D 2 0 0 (wJ cy j J) [(0, .ref (j 0)), (1, .int (nI i))] [] 0
  have hgl := hj.gl
  refine g_aload_n C dX1_valueOf_0 0 rfl rfl ?_
  refine g_iload_n C dX1_valueOf_1 1 rfl rfl ?_
  refine g_callIV C [0, 1, 2, 3, 4] [] [0, 1, 2, 3, 4] 0 1 (b := j 0) rfl rfl (As := [.int (nI i)]) (rest := []) (wr := ([] : va_W)) (wf := fun _ => (wJ cy j J)) dX1_valueOf_2 gX1_valueOf_X1_isWrite rfl dmX1_isWrite ⟨rfl, rfl, Nat.le_of_ble_eq_true rfl, Nat.le_of_ble_eq_true rfl, Nat.zero_le _, Nat.zero_le _⟩ (c_X1_isWrite l D cy cz j J w gs op i hj hi) ⟨rfl, rfl, rfl, rfl, by decide, rfl, fun _ => rfl⟩ (Nat.le_of_ble_eq_true rfl) ?_
  rintro _ - rfl
  show G x l (rmF 1 36) D 2 0 0 (wJ cy j J) [(0, .ref (j 0)), (1, .int (nI i))] [.int 1] 5
  refine g_if_eq C (tgt := 17) dX1_valueOf_5 (by decide) (fun c1 => ?_) (fun c1 => ?_)
  · skip
    exact absurd c1 (by decide)
  · skip
    refine g_aload_n C dX1_valueOf_8 0 rfl rfl ?_
    refine g_get C 0 (f := 2) (v := .ref (j 3)) (Cn := RX1) (T := TX1) (N := 8) dX1_valueOf_9 rfl rfl iX1_valueOf_X1 (by decide) mX1_valueOf_f18 rfl ?_
    refine g_iload_n C dX1_valueOf_12 1 rfl rfl ?_
    refine g_iald C 3 0 (f := J 3) (N := 64) i dX1_valueOf_13 rfl rfl (by decide) (rfl) (by omega) ?_
    refine g_goto C (tgt := 19) dX1_valueOf_14 (by decide) ?_
    exact ret _ () _ _ dX1_valueOf_19 rfl
