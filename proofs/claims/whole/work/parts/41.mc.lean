/-! made by wip/whole/gen.py and m1.py -/
def T0 : TS := ([], [], [], none, 0)
theorem OKL_nil : OKL [] := fun i hi => absurd hi (Nat.not_lt_zero _)
theorem T0_RX {P O : Mem} (h1 : RP A0 P) (h2 : P 0 2 = 0) (h3 : RP A0 O) (h4 : O 0 2 = 0) : RX T0 ((fun _ _ => 0), P, O, (fun _ _ => 0), (fun _ _ => 0)) :=
  ⟨h1, h2, h3, h4, ⟨rfl, rfl, by decide, fun i hi => absurd hi (Nat.not_lt_zero _), rfl, fun g hg => (by cases hg), fun i hi => absurd hi (Nat.not_lt_zero _), rfl⟩, rfl, rfl, OKL_nil⟩
theorem T0_RY {M0 M1 : Mem} (h0 : (fun _ _ => 0) = M0) (h : RM A0 M1 ∧ M1 0 2 = 0 ∧ KW M0 M1) : RY T0 M1 := by
  subst h0
  obtain ⟨h1, h2, h3⟩ := h
  have hs : ∀ j, 3 ≤ j → j ≤ 8 → M1 0 j = 0 := h3.2.2.2
  exact ⟨h1, h2, hs 3 (by decide) (by decide), hs 4 (by decide) (by decide), fun i hi => absurd hi (Nat.not_lt_zero _), hs 5 (by decide) (by decide), fun i hi => absurd hi (Nat.not_lt_zero _), hs 6 (by decide) (by decide), fun k hk => (by cases hk), hs 8 (by decide) (by decide), OKL_nil, rfl, Nat.zero_le _, fun g hg => (by cases hg)⟩
theorem upd_id {P : Mem} {b : Nat} (h : ∀ c, c < b → P 7 c = nI c) : ∀ c, c < b + 1 → ps P 7 b (nI b) 7 c = nI c := by
  intro c hc
  show upd (P 7) b (nI b) c = nI c
  by_cases e : c = b
  · subst e; exact pk_us
  · rw [pk_un e]; exact h c (by omega)
theorem dmX0_init : gMeth yX0_init RX0 0 := by decide +kernel
theorem dmX1_init : gMeth yX1_init RX1 0 := by decide +kernel
theorem dmX2_init : gMeth yX2_init RX2 1 := by decide +kernel
theorem dmX3_init : gMeth yX3_init RX3 0 := by decide +kernel
theorem dmX4_init : gMeth yX4_init RX4 0 := by decide +kernel
theorem mX0_init_l3 : Cond.methodLink RX0 3 objectInit ∈ wsX0_init := List.mem_of_getElem? (i := 1) rfl
theorem mX0_init_oi : Cond.instanceMethod objectInit ∈ wsX0_init := List.mem_of_getElem? (i := 2) rfl
theorem mX0_init_oc : Cond.code objectInit ⟨#[0xb1]⟩ 1 none ∈ wsX0_init := List.mem_of_getElem? (i := 3) rfl
theorem mX0_init_aint : Cond.arrayClass .int ∈ wsX0_init := List.mem_of_getElem? (i := 4) rfl
theorem mX0_init_f9 : Cond.fieldLink RX0 9 (TX0 0).1 (TX0 0).2.1 (TX0 0).2.2.1 ∈ wsX0_init := List.mem_of_getElem? (i := 5) rfl
theorem iX0_init_X0 : ∀ w ∈ wsX00, w ∈ wsX0_init := by decide +kernel
theorem mX0_init_f15 : Cond.fieldLink RX0 15 (TX0 1).1 (TX0 1).2.1 (TX0 1).2.2.1 ∈ wsX0_init := List.mem_of_getElem? (i := 6) rfl
set_option maxHeartbeats 1600000 in
set_option maxRecDepth 20000 in
theorem c_X0_init (l : Launch) (D : va_G) (cy cz : ClassId) (q : Nat) : MC l yX0_init wsX0_init (rmC 1 2 528 36) D (tyL cy cz) [.ref q] [(q, .inr (0, [.null, .null, .int 0]))] (fun z : Nat → Nat => z 0 = q) (fun z => wZ cy z (fun _ _ => 0)) 2 528 := by
  refine g_entC (cc := cX0_init) (maxL := 1) (own := RX0) (by decide) rfl rfl rfl (Nat.le_of_ble_eq_true rfl) (fun x C hi ret => ?_)
  show G x l (rmC 1 2 528 36) D 1 0 0 [(q, .inr (0, [.null, .null, .int 0]))] [(0, .ref q)] [] 0
  refine g_aload_n C dX0_init_0 0 rfl rfl ?_
  refine g_obj C dX0_init_1 mX0_init_l3 mX0_init_oi mX0_init_oc (Nat.le_of_ble_eq_true rfl) (Nat.le_of_ble_eq_true rfl) ?_
  refine g_aload_n C dX0_init_4 0 rfl rfl ?_
  refine g_sipush C (v := 264) dX0_init_5 (by decide) ?_
  refine g_newi C 0 (cA := cy) 264 rfl dX0_init_8 mX0_init_aint rfl (by decide) (Nat.le_of_ble_eq_true rfl) (Nat.le_of_ble_eq_true rfl) (fun q8 => ?_)
  show G x l (rmC 1 2 528 36) D 1 1 264 [(q, .inr (0, [.null, .null, .int 0])), (q8, .inl (cy, 264, .inl (fun _ => 0)))] [(0, .ref q)] [.ref q8, .ref q] 10
  refine g_putF C hi 0 (f := 0) (v := .ref q8) (ty := .array .int) (Cn := RX0) (T := TX0) (N := 3) (ws' := [(q, .inr (0, [.ref q8, .null, .int 0])), (q8, .inl (cy, 264, .inl (fun _ => 0)))]) dX0_init_10 rfl rfl iX0_init_X0 tyX0 tyX0_ok nmX0 (by decide) mX0_init_f9 rfl rfl rfl rfl rfl (Nat.le_of_ble_eq_true rfl) rfl ?_
  refine g_aload_n C dX0_init_13 0 rfl rfl ?_
  refine g_sipush C (v := 264) dX0_init_14 (by decide) ?_
  refine g_newi C 0 (cA := cy) 264 rfl dX0_init_17 mX0_init_aint rfl (by decide) (Nat.le_of_ble_eq_true rfl) (Nat.le_of_ble_eq_true rfl) (fun q17 => ?_)
  show G x l (rmC 1 2 528 36) D 1 2 528 [(q, .inr (0, [.ref q8, .null, .int 0])), (q8, .inl (cy, 264, .inl (fun _ => 0))), (q17, .inl (cy, 264, .inl (fun _ => 0)))] [(0, .ref q)] [.ref q17, .ref q] 19
  refine g_putF C hi 0 (f := 1) (v := .ref q17) (ty := .array .int) (Cn := RX0) (T := TX0) (N := 3) (ws' := [(q, .inr (0, [.ref q8, .ref q17, .int 0])), (q8, .inl (cy, 264, .inl (fun _ => 0))), (q17, .inl (cy, 264, .inl (fun _ => 0)))]) dX0_init_19 rfl rfl iX0_init_X0 tyX0 tyX0_ok nmX0 (by decide) mX0_init_f15 rfl rfl rfl rfl rfl (Nat.le_of_ble_eq_true rfl) rfl ?_
  exact ret (fun i => if i = 0 then q else if i = 1 then q8 else q17) _ _ dX0_init_22 rfl

theorem mX1_init_l3 : Cond.methodLink RX1 3 objectInit ∈ wsX1_init := List.mem_of_getElem? (i := 1) rfl
theorem mX1_init_oi : Cond.instanceMethod objectInit ∈ wsX1_init := List.mem_of_getElem? (i := 2) rfl
theorem mX1_init_oc : Cond.code objectInit ⟨#[0xb1]⟩ 1 none ∈ wsX1_init := List.mem_of_getElem? (i := 3) rfl
theorem mX1_init_aint : Cond.arrayClass .int ∈ wsX1_init := List.mem_of_getElem? (i := 4) rfl
theorem mX1_init_f9 : Cond.fieldLink RX1 9 (TX1 0).1 (TX1 0).2.1 (TX1 0).2.2.1 ∈ wsX1_init := List.mem_of_getElem? (i := 5) rfl
theorem iX1_init_X1 : ∀ w ∈ wsX10, w ∈ wsX1_init := by decide +kernel
theorem mX1_init_f15 : Cond.fieldLink RX1 15 (TX1 1).1 (TX1 1).2.1 (TX1 1).2.2.1 ∈ wsX1_init := List.mem_of_getElem? (i := 6) rfl
theorem mX1_init_f18 : Cond.fieldLink RX1 18 (TX1 2).1 (TX1 2).2.1 (TX1 2).2.2.1 ∈ wsX1_init := List.mem_of_getElem? (i := 7) rfl
theorem mX1_init_f21 : Cond.fieldLink RX1 21 (TX1 3).1 (TX1 3).2.1 (TX1 3).2.2.1 ∈ wsX1_init := List.mem_of_getElem? (i := 8) rfl
set_option maxHeartbeats 1600000 in
set_option maxRecDepth 20000 in
theorem c_X1_init (l : Launch) (D : va_G) (cy cz : ClassId) (q : Nat) : MC l yX1_init wsX1_init (rmC 1 4 256 36) D (tyL cy cz) [.ref q] [(q, .inr (1, [.null, .null, .null, .null, .int 0, .int 0, .int 0, .int 0]))] (fun z : Nat → Nat => z 0 = q) (fun z => wJ cy z (fun _ _ => 0)) 4 256 := by
  refine g_entC (cc := cX1_init) (maxL := 1) (own := RX1) (by decide) rfl rfl rfl (Nat.le_of_ble_eq_true rfl) (fun x C hi ret => ?_)
  show G x l (rmC 1 4 256 36) D 1 0 0 [(q, .inr (1, [.null, .null, .null, .null, .int 0, .int 0, .int 0, .int 0]))] [(0, .ref q)] [] 0
  refine g_aload_n C dX1_init_0 0 rfl rfl ?_
  refine g_obj C dX1_init_1 mX1_init_l3 mX1_init_oi mX1_init_oc (Nat.le_of_ble_eq_true rfl) (Nat.le_of_ble_eq_true rfl) ?_
  refine g_aload_n C dX1_init_4 0 rfl rfl ?_
  refine g_bipush C (v := 64) dX1_init_5 (by decide) ?_
  refine g_newi C 0 (cA := cy) 64 rfl dX1_init_7 mX1_init_aint rfl (by decide) (Nat.le_of_ble_eq_true rfl) (Nat.le_of_ble_eq_true rfl) (fun q7 => ?_)
  show G x l (rmC 1 4 256 36) D 1 1 64 [(q, .inr (1, [.null, .null, .null, .null, .int 0, .int 0, .int 0, .int 0])), (q7, .inl (cy, 64, .inl (fun _ => 0)))] [(0, .ref q)] [.ref q7, .ref q] 9
  refine g_putF C hi 0 (f := 0) (v := .ref q7) (ty := .array .int) (Cn := RX1) (T := TX1) (N := 8) (ws' := [(q, .inr (1, [.ref q7, .null, .null, .null, .int 0, .int 0, .int 0, .int 0])), (q7, .inl (cy, 64, .inl (fun _ => 0)))]) dX1_init_9 rfl rfl iX1_init_X1 tyX1 tyX1_ok nmX1 (by decide) mX1_init_f9 rfl rfl rfl rfl rfl (Nat.le_of_ble_eq_true rfl) rfl ?_
  refine g_aload_n C dX1_init_12 0 rfl rfl ?_
  refine g_bipush C (v := 64) dX1_init_13 (by decide) ?_
  refine g_newi C 0 (cA := cy) 64 rfl dX1_init_15 mX1_init_aint rfl (by decide) (Nat.le_of_ble_eq_true rfl) (Nat.le_of_ble_eq_true rfl) (fun q15 => ?_)
  show G x l (rmC 1 4 256 36) D 1 2 128 [(q, .inr (1, [.ref q7, .null, .null, .null, .int 0, .int 0, .int 0, .int 0])), (q7, .inl (cy, 64, .inl (fun _ => 0))), (q15, .inl (cy, 64, .inl (fun _ => 0)))] [(0, .ref q)] [.ref q15, .ref q] 17
  refine g_putF C hi 0 (f := 1) (v := .ref q15) (ty := .array .int) (Cn := RX1) (T := TX1) (N := 8) (ws' := [(q, .inr (1, [.ref q7, .ref q15, .null, .null, .int 0, .int 0, .int 0, .int 0])), (q7, .inl (cy, 64, .inl (fun _ => 0))), (q15, .inl (cy, 64, .inl (fun _ => 0)))]) dX1_init_17 rfl rfl iX1_init_X1 tyX1 tyX1_ok nmX1 (by decide) mX1_init_f15 rfl rfl rfl rfl rfl (Nat.le_of_ble_eq_true rfl) rfl ?_
  refine g_aload_n C dX1_init_20 0 rfl rfl ?_
  refine g_bipush C (v := 64) dX1_init_21 (by decide) ?_
  refine g_newi C 0 (cA := cy) 64 rfl dX1_init_23 mX1_init_aint rfl (by decide) (Nat.le_of_ble_eq_true rfl) (Nat.le_of_ble_eq_true rfl) (fun q23 => ?_)
  show G x l (rmC 1 4 256 36) D 1 3 192 [(q, .inr (1, [.ref q7, .ref q15, .null, .null, .int 0, .int 0, .int 0, .int 0])), (q7, .inl (cy, 64, .inl (fun _ => 0))), (q15, .inl (cy, 64, .inl (fun _ => 0))), (q23, .inl (cy, 64, .inl (fun _ => 0)))] [(0, .ref q)] [.ref q23, .ref q] 25
  refine g_putF C hi 0 (f := 2) (v := .ref q23) (ty := .array .int) (Cn := RX1) (T := TX1) (N := 8) (ws' := [(q, .inr (1, [.ref q7, .ref q15, .ref q23, .null, .int 0, .int 0, .int 0, .int 0])), (q7, .inl (cy, 64, .inl (fun _ => 0))), (q15, .inl (cy, 64, .inl (fun _ => 0))), (q23, .inl (cy, 64, .inl (fun _ => 0)))]) dX1_init_25 rfl rfl iX1_init_X1 tyX1 tyX1_ok nmX1 (by decide) mX1_init_f18 rfl rfl rfl rfl rfl (Nat.le_of_ble_eq_true rfl) rfl ?_
  refine g_aload_n C dX1_init_28 0 rfl rfl ?_
  refine g_bipush C (v := 64) dX1_init_29 (by decide) ?_
  refine g_newi C 0 (cA := cy) 64 rfl dX1_init_31 mX1_init_aint rfl (by decide) (Nat.le_of_ble_eq_true rfl) (Nat.le_of_ble_eq_true rfl) (fun q31 => ?_)
  show G x l (rmC 1 4 256 36) D 1 4 256 [(q, .inr (1, [.ref q7, .ref q15, .ref q23, .null, .int 0, .int 0, .int 0, .int 0])), (q7, .inl (cy, 64, .inl (fun _ => 0))), (q15, .inl (cy, 64, .inl (fun _ => 0))), (q23, .inl (cy, 64, .inl (fun _ => 0))), (q31, .inl (cy, 64, .inl (fun _ => 0)))] [(0, .ref q)] [.ref q31, .ref q] 33
  refine g_putF C hi 0 (f := 3) (v := .ref q31) (ty := .array .int) (Cn := RX1) (T := TX1) (N := 8) (ws' := [(q, .inr (1, [.ref q7, .ref q15, .ref q23, .ref q31, .int 0, .int 0, .int 0, .int 0])), (q7, .inl (cy, 64, .inl (fun _ => 0))), (q15, .inl (cy, 64, .inl (fun _ => 0))), (q23, .inl (cy, 64, .inl (fun _ => 0))), (q31, .inl (cy, 64, .inl (fun _ => 0)))]) dX1_init_33 rfl rfl iX1_init_X1 tyX1 tyX1_ok nmX1 (by decide) mX1_init_f21 rfl rfl rfl rfl rfl (Nat.le_of_ble_eq_true rfl) rfl ?_
  exact ret (fun i => if i = 0 then q else if i = 1 then q7 else if i = 2 then q15 else if i = 3 then q23 else q31) _ _ dX1_init_36 rfl

set_option maxHeartbeats 1600000 in
set_option maxRecDepth 20000 in
theorem c_J7_fill (l : Launch) (D : va_G) (cy cz : ClassId) (a N : Nat) (f : Nat → Int32) (v : Int32) (hN : N < 2 ^ 31) : MVd l yJ7_fill_53178 wsJ7_fill_53178 (rmF 0 0) D (tyL cy cz) [.ref a, .int v] [(a, .inl (cy, N, .inl f))] [(a, .inl (cy, N, .inl (fun _ => v)))] := by
  refine g_entV (cc := cJ7_fill_53178) (maxL := 4) (own := RJ7) (by decide) rfl rfl (Nat.le_of_ble_eq_true rfl) (fun x C ret => ?_)
  show G x l (rmF 0 0) D 4 0 0 [(a, .inl (cy, N, .inl f))] [(0, .ref a), (1, .int v)] [] 0
  refine g_iconst C (v := 0) dJ7_fill_53178_0 (by decide) ?_
  refine g_istore_n C (lv' := [(2, .int 0), (0, .ref a), (1, .int v)]) dJ7_fill_53178_1 rfl (by decide) rfl ?_
  refine g_aload_n C dJ7_fill_53178_2 1 rfl rfl ?_
  refine g_alen C 0 0 (f := f) (N := N) dJ7_fill_53178_3 rfl rfl ?_
  refine g_istore_n C (lv' := [(3, .int (nI N)), (2, .int 0), (0, .ref a), (1, .int v)]) dJ7_fill_53178_4 rfl (by decide) rfl ?_
  refine g_lv (lv' := [(2, .int 0), (3, .int (nI N)), (0, .ref a), (1, .int v)]) [1, 0, 2, 3] rfl ?_
  refine g_loop (σ := Nat × (Nat → Int32)) (fun b => match b with | (i, h) => [(a, .inl (cy, N, .inl h))]) (fun b => match b with | (i, h) => [(2, .int (nI i)), (3, .int (nI N)), (0, .ref a), (1, .int v)]) (fun b => match b with | (i, h) => i ≤ N ∧ ∀ j, j < i → h j = v) (fun b => match b with | (i, h) => N - i) ?_ (0, f) ⟨Nat.zero_le _, fun j hj => absurd hj (Nat.not_lt_zero _)⟩
  intro b hI ih
  obtain ⟨i, h⟩ := b
  obtain ⟨i1, i2⟩ : i ≤ N ∧ ∀ j, j < i → h j = v := hI
  show G x l (rmF 0 0) D 4 0 0 [(a, .inl (cy, N, .inl h))] [(2, .int (nI i)), (3, .int (nI N)), (0, .ref a), (1, .int v)] [] 5
  refine g_iload_n C dJ7_fill_53178_5 0 rfl rfl ?_
  refine g_iload_n C dJ7_fill_53178_6 1 rfl rfl ?_
  refine g_icmp_ge C (tgt := 20) dJ7_fill_53178_7 (by decide) (fun c1 => ?_) (fun c1 => ?_)
  · have hi : i = N := by have := (nI_leI (by omega) (by omega)).mp c1; omega
    refine g_same (ws' := [(a, .inl (cy, N, .inl (fun _ => v)))]) (fun H hP => va_P_arr (fun j hj => i2 j (by omega)) H hP) rfl ?_
    exact ret () _ _ dJ7_fill_53178_20 trivial
  · have hi : i < N := Nat.lt_of_not_le (fun w => c1 (nI_le w (by omega)))
    refine g_aload_n C dJ7_fill_53178_10 2 rfl rfl ?_
    refine g_iload_n C dJ7_fill_53178_11 0 rfl rfl ?_
    refine g_iload_n C dJ7_fill_53178_12 3 rfl rfl ?_
    refine g_iast C 0 0 (f := h) (N := N) (ws' := [(a, .inl (cy, N, .inl (upd h i v)))]) i dJ7_fill_53178_13 rfl rfl hN rfl hi rfl ?_
    refine g_iinc C (q := 0) (v := nI (i + 1)) (lv' := [(2, .int (nI (i + 1))), (3, .int (nI N)), (0, .ref a), (1, .int v)]) dJ7_fill_53178_14 rfl (nI_1 i) (by decide) rfl ?_
    refine g_goto C (tgt := 5) dJ7_fill_53178_17 (by decide) ?_
    refine ih (i + 1, upd h i v) ⟨hi, fun j hj => ?_⟩ (by show N - (i + 1) < N - i; omega)
    by_cases e : j = i
    · subst e; exact pk_us
    · rw [pk_un e]; exact i2 j (by omega)
theorem dmJ7_fill : gMeth yJ7_fill_53178 RJ7 2 := by decide +kernel

theorem mX2_init_l3 : Cond.methodLink RX2 3 objectInit ∈ wsX2_init := List.mem_of_getElem? (i := 1) rfl
theorem mX2_init_oi : Cond.instanceMethod objectInit ∈ wsX2_init := List.mem_of_getElem? (i := 2) rfl
theorem mX2_init_oc : Cond.code objectInit ⟨#[0xb1]⟩ 1 none ∈ wsX2_init := List.mem_of_getElem? (i := 3) rfl
theorem mX2_init_aint : Cond.arrayClass .int ∈ wsX2_init := List.mem_of_getElem? (i := 4) rfl
theorem mX2_init_f9 : Cond.fieldLink RX2 9 (TX2 0).1 (TX2 0).2.1 (TX2 0).2.2.1 ∈ wsX2_init := List.mem_of_getElem? (i := 5) rfl
theorem iX2_init_X2 : ∀ w ∈ wsX20, w ∈ wsX2_init := by decide +kernel
theorem mX2_init_f15 : Cond.fieldLink RX2 15 (TX2 1).1 (TX2 1).2.1 (TX2 1).2.2.1 ∈ wsX2_init := List.mem_of_getElem? (i := 6) rfl
theorem mX2_init_f18 : Cond.fieldLink RX2 18 (TX2 2).1 (TX2 2).2.1 (TX2 2).2.2.1 ∈ wsX2_init := List.mem_of_getElem? (i := 7) rfl
theorem mX2_init_f21 : Cond.fieldLink RX2 21 (TX2 3).1 (TX2 3).2.1 (TX2 3).2.2.1 ∈ wsX2_init := List.mem_of_getElem? (i := 8) rfl
theorem mX2_init_f24 : Cond.fieldLink RX2 24 (TX2 4).1 (TX2 4).2.1 (TX2 4).2.2.1 ∈ wsX2_init := List.mem_of_getElem? (i := 9) rfl
theorem mX2_init_f27 : Cond.fieldLink RX2 27 (TX2 5).1 (TX2 5).2.1 (TX2 5).2.2.1 ∈ wsX2_init := List.mem_of_getElem? (i := 10) rfl
theorem mX2_init_f30 : Cond.fieldLink RX2 30 (TX2 6).1 (TX2 6).2.1 (TX2 6).2.2.1 ∈ wsX2_init := List.mem_of_getElem? (i := 11) rfl
theorem mX2_init_f33 : Cond.fieldLink RX2 33 (TX2 7).1 (TX2 7).2.1 (TX2 7).2.2.1 ∈ wsX2_init := List.mem_of_getElem? (i := 12) rfl
theorem mX2_init_k37 : Cond.constant RX2 37 (-2000000005) ∈ wsX2_init := List.mem_of_getElem? (i := 13) rfl
set_option maxHeartbeats 1600000 in
set_option maxRecDepth 20000 in
theorem c_X2_init (l : Launch) (D : va_G) (cy cz : ClassId) (q z0 : Nat) : MC l yX2_init wsX2_init (rmC 1 7 1600 36) D (tyL cy cz) [.ref q, .ref z0] [(q, .inr (2, [.null, .null, .null, .null, .null, .null, .null, .null, .int 0, .int 0, .int 0]))] (fun u : (Nat → Nat) × Mem => u.1 0 = q ∧ RP A0 u.2 ∧ u.2 0 2 = 0) (fun u => wG cy u.1 z0 u.2) 7 1600 := by
  refine g_entC (cc := cX2_init) (maxL := 3) (own := RX2) (by decide) rfl rfl rfl (Nat.le_of_ble_eq_true rfl) (fun x C hi ret => ?_)
  show G x l (rmC 1 7 1600 36) D 3 0 0 [(q, .inr (2, [.null, .null, .null, .null, .null, .null, .null, .null, .int 0, .int 0, .int 0]))] [(0, .ref q), (1, .ref z0)] [] 0
  refine g_aload_n C dX2_init_0 0 rfl rfl ?_
  refine g_obj C dX2_init_1 mX2_init_l3 mX2_init_oi mX2_init_oc (Nat.le_of_ble_eq_true rfl) (Nat.le_of_ble_eq_true rfl) ?_
  refine g_aload_n C dX2_init_4 0 rfl rfl ?_
  refine g_sipush C (v := 512) dX2_init_5 (by decide) ?_
  refine g_newi C 0 (cA := cy) 512 rfl dX2_init_8 mX2_init_aint rfl (by decide) (Nat.le_of_ble_eq_true rfl) (Nat.le_of_ble_eq_true rfl) (fun q8 => ?_)
  show G x l (rmC 1 7 1600 36) D 3 1 512 [(q, .inr (2, [.null, .null, .null, .null, .null, .null, .null, .null, .int 0, .int 0, .int 0])), (q8, .inl (cy, 512, .inl (fun _ => 0)))] [(0, .ref q), (1, .ref z0)] [.ref q8, .ref q] 10
  refine g_putF C hi 0 (f := 0) (v := .ref q8) (ty := .array .int) (Cn := RX2) (T := TX2) (N := 11) (ws' := [(q, .inr (2, [.ref q8, .null, .null, .null, .null, .null, .null, .null, .int 0, .int 0, .int 0])), (q8, .inl (cy, 512, .inl (fun _ => 0)))]) dX2_init_10 rfl rfl iX2_init_X2 tyX2 tyX2_ok nmX2 (by decide) mX2_init_f9 rfl rfl rfl rfl rfl (Nat.le_of_ble_eq_true rfl) rfl ?_
  refine g_aload_n C dX2_init_13 0 rfl rfl ?_
  refine g_sipush C (v := 512) dX2_init_14 (by decide) ?_
  refine g_newi C 0 (cA := cy) 512 rfl dX2_init_17 mX2_init_aint rfl (by decide) (Nat.le_of_ble_eq_true rfl) (Nat.le_of_ble_eq_true rfl) (fun q17 => ?_)
  show G x l (rmC 1 7 1600 36) D 3 2 1024 [(q, .inr (2, [.ref q8, .null, .null, .null, .null, .null, .null, .null, .int 0, .int 0, .int 0])), (q8, .inl (cy, 512, .inl (fun _ => 0))), (q17, .inl (cy, 512, .inl (fun _ => 0)))] [(0, .ref q), (1, .ref z0)] [.ref q17, .ref q] 19
  refine g_putF C hi 0 (f := 1) (v := .ref q17) (ty := .array .int) (Cn := RX2) (T := TX2) (N := 11) (ws' := [(q, .inr (2, [.ref q8, .ref q17, .null, .null, .null, .null, .null, .null, .int 0, .int 0, .int 0])), (q8, .inl (cy, 512, .inl (fun _ => 0))), (q17, .inl (cy, 512, .inl (fun _ => 0)))]) dX2_init_19 rfl rfl iX2_init_X2 tyX2 tyX2_ok nmX2 (by decide) mX2_init_f15 rfl rfl rfl rfl rfl (Nat.le_of_ble_eq_true rfl) rfl ?_
  refine g_aload_n C dX2_init_22 0 rfl rfl ?_
  refine g_sipush C (v := 128) dX2_init_23 (by decide) ?_
  refine g_newi C 0 (cA := cy) 128 rfl dX2_init_26 mX2_init_aint rfl (by decide) (Nat.le_of_ble_eq_true rfl) (Nat.le_of_ble_eq_true rfl) (fun q26 => ?_)
  show G x l (rmC 1 7 1600 36) D 3 3 1152 [(q, .inr (2, [.ref q8, .ref q17, .null, .null, .null, .null, .null, .null, .int 0, .int 0, .int 0])), (q8, .inl (cy, 512, .inl (fun _ => 0))), (q17, .inl (cy, 512, .inl (fun _ => 0))), (q26, .inl (cy, 128, .inl (fun _ => 0)))] [(0, .ref q), (1, .ref z0)] [.ref q26, .ref q] 28
  refine g_putF C hi 0 (f := 2) (v := .ref q26) (ty := .array .int) (Cn := RX2) (T := TX2) (N := 11) (ws' := [(q, .inr (2, [.ref q8, .ref q17, .ref q26, .null, .null, .null, .null, .null, .int 0, .int 0, .int 0])), (q8, .inl (cy, 512, .inl (fun _ => 0))), (q17, .inl (cy, 512, .inl (fun _ => 0))), (q26, .inl (cy, 128, .inl (fun _ => 0)))]) dX2_init_28 rfl rfl iX2_init_X2 tyX2 tyX2_ok nmX2 (by decide) mX2_init_f18 rfl rfl rfl rfl rfl (Nat.le_of_ble_eq_true rfl) rfl ?_
  refine g_aload_n C dX2_init_31 0 rfl rfl ?_
  refine g_sipush C (v := 128) dX2_init_32 (by decide) ?_
  refine g_newi C 0 (cA := cy) 128 rfl dX2_init_35 mX2_init_aint rfl (by decide) (Nat.le_of_ble_eq_true rfl) (Nat.le_of_ble_eq_true rfl) (fun q35 => ?_)
  show G x l (rmC 1 7 1600 36) D 3 4 1280 [(q, .inr (2, [.ref q8, .ref q17, .ref q26, .null, .null, .null, .null, .null, .int 0, .int 0, .int 0])), (q8, .inl (cy, 512, .inl (fun _ => 0))), (q17, .inl (cy, 512, .inl (fun _ => 0))), (q26, .inl (cy, 128, .inl (fun _ => 0))), (q35, .inl (cy, 128, .inl (fun _ => 0)))] [(0, .ref q), (1, .ref z0)] [.ref q35, .ref q] 37
  refine g_putF C hi 0 (f := 3) (v := .ref q35) (ty := .array .int) (Cn := RX2) (T := TX2) (N := 11) (ws' := [(q, .inr (2, [.ref q8, .ref q17, .ref q26, .ref q35, .null, .null, .null, .null, .int 0, .int 0, .int 0])), (q8, .inl (cy, 512, .inl (fun _ => 0))), (q17, .inl (cy, 512, .inl (fun _ => 0))), (q26, .inl (cy, 128, .inl (fun _ => 0))), (q35, .inl (cy, 128, .inl (fun _ => 0)))]) dX2_init_37 rfl rfl iX2_init_X2 tyX2 tyX2_ok nmX2 (by decide) mX2_init_f21 rfl rfl rfl rfl rfl (Nat.le_of_ble_eq_true rfl) rfl ?_
  refine g_aload_n C dX2_init_40 0 rfl rfl ?_
  refine g_sipush C (v := 128) dX2_init_41 (by decide) ?_
  refine g_newi C 0 (cA := cy) 128 rfl dX2_init_44 mX2_init_aint rfl (by decide) (Nat.le_of_ble_eq_true rfl) (Nat.le_of_ble_eq_true rfl) (fun q44 => ?_)
  show G x l (rmC 1 7 1600 36) D 3 5 1408 [(q, .inr (2, [.ref q8, .ref q17, .ref q26, .ref q35, .null, .null, .null, .null, .int 0, .int 0, .int 0])), (q8, .inl (cy, 512, .inl (fun _ => 0))), (q17, .inl (cy, 512, .inl (fun _ => 0))), (q26, .inl (cy, 128, .inl (fun _ => 0))), (q35, .inl (cy, 128, .inl (fun _ => 0))), (q44, .inl (cy, 128, .inl (fun _ => 0)))] [(0, .ref q), (1, .ref z0)] [.ref q44, .ref q] 46
  refine g_putF C hi 0 (f := 4) (v := .ref q44) (ty := .array .int) (Cn := RX2) (T := TX2) (N := 11) (ws' := [(q, .inr (2, [.ref q8, .ref q17, .ref q26, .ref q35, .ref q44, .null, .null, .null, .int 0, .int 0, .int 0])), (q8, .inl (cy, 512, .inl (fun _ => 0))), (q17, .inl (cy, 512, .inl (fun _ => 0))), (q26, .inl (cy, 128, .inl (fun _ => 0))), (q35, .inl (cy, 128, .inl (fun _ => 0))), (q44, .inl (cy, 128, .inl (fun _ => 0)))]) dX2_init_46 rfl rfl iX2_init_X2 tyX2 tyX2_ok nmX2 (by decide) mX2_init_f24 rfl rfl rfl rfl rfl (Nat.le_of_ble_eq_true rfl) rfl ?_
  refine g_aload_n C dX2_init_49 0 rfl rfl ?_
  refine g_sipush C (v := 128) dX2_init_50 (by decide) ?_
  refine g_newi C 0 (cA := cy) 128 rfl dX2_init_53 mX2_init_aint rfl (by decide) (Nat.le_of_ble_eq_true rfl) (Nat.le_of_ble_eq_true rfl) (fun q53 => ?_)
  show G x l (rmC 1 7 1600 36) D 3 6 1536 [(q, .inr (2, [.ref q8, .ref q17, .ref q26, .ref q35, .ref q44, .null, .null, .null, .int 0, .int 0, .int 0])), (q8, .inl (cy, 512, .inl (fun _ => 0))), (q17, .inl (cy, 512, .inl (fun _ => 0))), (q26, .inl (cy, 128, .inl (fun _ => 0))), (q35, .inl (cy, 128, .inl (fun _ => 0))), (q44, .inl (cy, 128, .inl (fun _ => 0))), (q53, .inl (cy, 128, .inl (fun _ => 0)))] [(0, .ref q), (1, .ref z0)] [.ref q53, .ref q] 55
  refine g_putF C hi 0 (f := 5) (v := .ref q53) (ty := .array .int) (Cn := RX2) (T := TX2) (N := 11) (ws' := [(q, .inr (2, [.ref q8, .ref q17, .ref q26, .ref q35, .ref q44, .ref q53, .null, .null, .int 0, .int 0, .int 0])), (q8, .inl (cy, 512, .inl (fun _ => 0))), (q17, .inl (cy, 512, .inl (fun _ => 0))), (q26, .inl (cy, 128, .inl (fun _ => 0))), (q35, .inl (cy, 128, .inl (fun _ => 0))), (q44, .inl (cy, 128, .inl (fun _ => 0))), (q53, .inl (cy, 128, .inl (fun _ => 0)))]) dX2_init_55 rfl rfl iX2_init_X2 tyX2 tyX2_ok nmX2 (by decide) mX2_init_f27 rfl rfl rfl rfl rfl (Nat.le_of_ble_eq_true rfl) rfl ?_
  refine g_aload_n C dX2_init_58 0 rfl rfl ?_
  refine g_bipush C (v := 64) dX2_init_59 (by decide) ?_
  refine g_newi C 0 (cA := cy) 64 rfl dX2_init_61 mX2_init_aint rfl (by decide) (Nat.le_of_ble_eq_true rfl) (Nat.le_of_ble_eq_true rfl) (fun q61 => ?_)
  show G x l (rmC 1 7 1600 36) D 3 7 1600 [(q, .inr (2, [.ref q8, .ref q17, .ref q26, .ref q35, .ref q44, .ref q53, .null, .null, .int 0, .int 0, .int 0])), (q8, .inl (cy, 512, .inl (fun _ => 0))), (q17, .inl (cy, 512, .inl (fun _ => 0))), (q26, .inl (cy, 128, .inl (fun _ => 0))), (q35, .inl (cy, 128, .inl (fun _ => 0))), (q44, .inl (cy, 128, .inl (fun _ => 0))), (q53, .inl (cy, 128, .inl (fun _ => 0))), (q61, .inl (cy, 64, .inl (fun _ => 0)))] [(0, .ref q), (1, .ref z0)] [.ref q61, .ref q] 63
  refine g_putF C hi 0 (f := 6) (v := .ref q61) (ty := .array .int) (Cn := RX2) (T := TX2) (N := 11) (ws' := [(q, .inr (2, [.ref q8, .ref q17, .ref q26, .ref q35, .ref q44, .ref q53, .ref q61, .null, .int 0, .int 0, .int 0])), (q8, .inl (cy, 512, .inl (fun _ => 0))), (q17, .inl (cy, 512, .inl (fun _ => 0))), (q26, .inl (cy, 128, .inl (fun _ => 0))), (q35, .inl (cy, 128, .inl (fun _ => 0))), (q44, .inl (cy, 128, .inl (fun _ => 0))), (q53, .inl (cy, 128, .inl (fun _ => 0))), (q61, .inl (cy, 64, .inl (fun _ => 0)))]) dX2_init_63 rfl rfl iX2_init_X2 tyX2 tyX2_ok nmX2 (by decide) mX2_init_f30 rfl rfl rfl rfl rfl (Nat.le_of_ble_eq_true rfl) rfl ?_
  refine g_aload_n C dX2_init_66 0 rfl rfl ?_
  refine g_aload_n C dX2_init_67 1 rfl rfl ?_
  refine g_putF C hi 0 (f := 7) (v := .ref z0) (ty := .object "PageBuckets$Aside") (Cn := RX2) (T := TX2) (N := 11) (ws' := [(q, .inr (2, [.ref q8, .ref q17, .ref q26, .ref q35, .ref q44, .ref q53, .ref q61, .ref z0, .int 0, .int 0, .int 0])), (q8, .inl (cy, 512, .inl (fun _ => 0))), (q17, .inl (cy, 512, .inl (fun _ => 0))), (q26, .inl (cy, 128, .inl (fun _ => 0))), (q35, .inl (cy, 128, .inl (fun _ => 0))), (q44, .inl (cy, 128, .inl (fun _ => 0))), (q53, .inl (cy, 128, .inl (fun _ => 0))), (q61, .inl (cy, 64, .inl (fun _ => 0)))]) dX2_init_68 rfl rfl iX2_init_X2 tyX2 tyX2_ok nmX2 (by decide) mX2_init_f33 rfl rfl rfl rfl rfl (Nat.le_of_ble_eq_true rfl) rfl ?_
  obtain ⟨gg, rfl, rfl, rfl, rfl, rfl, rfl, rfl, rfl⟩ : ∃ gg : Nat → Nat, gg 0 = q ∧ gg 1 = q8 ∧ gg 2 = q17 ∧ gg 3 = q26 ∧ gg 4 = q35 ∧ gg 5 = q44 ∧ gg 6 = q53 ∧ gg 7 = q61 := ⟨(fun i => if i = 0 then q else if i = 1 then q8 else if i = 2 then q17 else if i = 3 then q26 else if i = 4 then q35 else if i = 5 then q44 else if i = 6 then q53 else q61), rfl, rfl, rfl, rfl, rfl, rfl, rfl, rfl⟩
  show G x l (rmC 1 7 1600 36) D 3 7 1600 (wG cy gg z0 (fun _ _ => 0)) [(0, .ref (gg 0)), (1, .ref z0)] [] 71
  generalize hP0 : (fun (_ _ : Nat) => (0 : Int32)) = P0
  show G x l (rmC 1 7 1600 36) D 3 7 1600 (wG cy gg z0 P0) [(0, .ref (gg 0)), (1, .ref z0)] [] 71
  refine g_aload_n C dX2_init_71 0 rfl rfl ?_
  refine g_get C 0 (f := 3) (v := .ref (gg 4)) (Cn := RX2) (T := TX2) (N := 11) dX2_init_72 rfl rfl iX2_init_X2 (by decide) mX2_init_f21 rfl ?_
  refine g_ldc C (v := vNONE) mX2_init_k37 dX2_init_75 ?_
  refine g_callVS C [4] [0, 1, 2, 3, 5, 6, 7] [0, 1, 2, 3, 7, 4, 5, 6] (As := [.ref (gg 4), .int vNONE]) (rest := []) (wr := [(gg 0, .inr (2, [.ref (gg 1), .ref (gg 2), .ref (gg 3), .ref (gg 4), .ref (gg 5), .ref (gg 6), .ref (gg 7), .ref z0, .int (P0 0 0), .int (P0 0 1), .int (P0 0 2)])), (gg 1, .inl (cy, 512, .inl (P0 1))), (gg 2, .inl (cy, 512, .inl (P0 2))), (gg 3, .inl (cy, 128, .inl (P0 3))), (gg 5, .inl (cy, 128, .inl (P0 5))), (gg 6, .inl (cy, 128, .inl (P0 6))), (gg 7, .inl (cy, 64, .inl (P0 7)))]) (wf := fun _ => (wG cy gg z0 (pa P0 4 (fun _ => vNONE)))) dX2_init_77 gX2_init_J7_fill_53178 rfl dmJ7_fill ⟨rfl, rfl, (Nat.le_of_ble_eq_true rfl), (Nat.le_of_ble_eq_true rfl), (Nat.le_of_ble_eq_true rfl), (Nat.le_of_ble_eq_true rfl)⟩ (c_J7_fill l D cy cz (gg 4) 128 (P0 4) vNONE (by decide)) ⟨rfl, rfl, rfl, rfl, by decide, rfl, fun _ => rfl⟩ (Nat.le_of_ble_eq_true rfl) ?_
  rintro - -
  show G x l (rmC 1 7 1600 36) D 3 7 1600 (wG cy gg z0 (pa P0 4 (fun _ => vNONE))) [(0, .ref (gg 0)), (1, .ref z0)] [] 80
  refine g_aload_n C dX2_init_80 0 rfl rfl ?_
  refine g_get C 0 (f := 4) (v := .ref (gg 5)) (Cn := RX2) (T := TX2) (N := 11) dX2_init_81 rfl rfl iX2_init_X2 (by decide) mX2_init_f24 rfl ?_
  refine g_ldc C (v := vNONE) mX2_init_k37 dX2_init_84 ?_
  refine g_callVS C [5] [0, 1, 2, 3, 4, 6, 7] [0, 1, 2, 3, 4, 7, 5, 6] (As := [.ref (gg 5), .int vNONE]) (rest := []) (wr := [(gg 0, .inr (2, [.ref (gg 1), .ref (gg 2), .ref (gg 3), .ref (gg 4), .ref (gg 5), .ref (gg 6), .ref (gg 7), .ref z0, .int ((pa P0 4 (fun _ => vNONE)) 0 0), .int ((pa P0 4 (fun _ => vNONE)) 0 1), .int ((pa P0 4 (fun _ => vNONE)) 0 2)])), (gg 1, .inl (cy, 512, .inl ((pa P0 4 (fun _ => vNONE)) 1))), (gg 2, .inl (cy, 512, .inl ((pa P0 4 (fun _ => vNONE)) 2))), (gg 3, .inl (cy, 128, .inl ((pa P0 4 (fun _ => vNONE)) 3))), (gg 4, .inl (cy, 128, .inl ((pa P0 4 (fun _ => vNONE)) 4))), (gg 6, .inl (cy, 128, .inl ((pa P0 4 (fun _ => vNONE)) 6))), (gg 7, .inl (cy, 64, .inl ((pa P0 4 (fun _ => vNONE)) 7)))]) (wf := fun _ => (wG cy gg z0 (pa (pa P0 4 (fun _ => vNONE)) 5 (fun _ => vNONE)))) dX2_init_86 gX2_init_J7_fill_53178 rfl dmJ7_fill ⟨rfl, rfl, (Nat.le_of_ble_eq_true rfl), (Nat.le_of_ble_eq_true rfl), (Nat.le_of_ble_eq_true rfl), (Nat.le_of_ble_eq_true rfl)⟩ (c_J7_fill l D cy cz (gg 5) 128 ((pa P0 4 (fun _ => vNONE)) 5) vNONE (by decide)) ⟨rfl, rfl, rfl, rfl, by decide, rfl, fun _ => rfl⟩ (Nat.le_of_ble_eq_true rfl) ?_
  rintro - -
  show G x l (rmC 1 7 1600 36) D 3 7 1600 (wG cy gg z0 (pa (pa P0 4 (fun _ => vNONE)) 5 (fun _ => vNONE))) [(0, .ref (gg 0)), (1, .ref z0)] [] 89
  refine g_aload_n C dX2_init_89 0 rfl rfl ?_
  refine g_get C 0 (f := 5) (v := .ref (gg 6)) (Cn := RX2) (T := TX2) (N := 11) dX2_init_90 rfl rfl iX2_init_X2 (by decide) mX2_init_f27 rfl ?_
  refine g_ldc C (v := vNONE) mX2_init_k37 dX2_init_93 ?_
  refine g_callVS C [6] [0, 1, 2, 3, 4, 5, 7] [0, 1, 2, 3, 4, 5, 7, 6] (As := [.ref (gg 6), .int vNONE]) (rest := []) (wr := [(gg 0, .inr (2, [.ref (gg 1), .ref (gg 2), .ref (gg 3), .ref (gg 4), .ref (gg 5), .ref (gg 6), .ref (gg 7), .ref z0, .int ((pa (pa P0 4 (fun _ => vNONE)) 5 (fun _ => vNONE)) 0 0), .int ((pa (pa P0 4 (fun _ => vNONE)) 5 (fun _ => vNONE)) 0 1), .int ((pa (pa P0 4 (fun _ => vNONE)) 5 (fun _ => vNONE)) 0 2)])), (gg 1, .inl (cy, 512, .inl ((pa (pa P0 4 (fun _ => vNONE)) 5 (fun _ => vNONE)) 1))), (gg 2, .inl (cy, 512, .inl ((pa (pa P0 4 (fun _ => vNONE)) 5 (fun _ => vNONE)) 2))), (gg 3, .inl (cy, 128, .inl ((pa (pa P0 4 (fun _ => vNONE)) 5 (fun _ => vNONE)) 3))), (gg 4, .inl (cy, 128, .inl ((pa (pa P0 4 (fun _ => vNONE)) 5 (fun _ => vNONE)) 4))), (gg 5, .inl (cy, 128, .inl ((pa (pa P0 4 (fun _ => vNONE)) 5 (fun _ => vNONE)) 5))), (gg 7, .inl (cy, 64, .inl ((pa (pa P0 4 (fun _ => vNONE)) 5 (fun _ => vNONE)) 7)))]) (wf := fun _ => (wG cy gg z0 (pa (pa (pa P0 4 (fun _ => vNONE)) 5 (fun _ => vNONE)) 6 (fun _ => vNONE)))) dX2_init_95 gX2_init_J7_fill_53178 rfl dmJ7_fill ⟨rfl, rfl, (Nat.le_of_ble_eq_true rfl), (Nat.le_of_ble_eq_true rfl), (Nat.le_of_ble_eq_true rfl), (Nat.le_of_ble_eq_true rfl)⟩ (c_J7_fill l D cy cz (gg 6) 128 ((pa (pa P0 4 (fun _ => vNONE)) 5 (fun _ => vNONE)) 6) vNONE (by decide)) ⟨rfl, rfl, rfl, rfl, by decide, rfl, fun _ => rfl⟩ (Nat.le_of_ble_eq_true rfl) ?_
  rintro - -
  show G x l (rmC 1 7 1600 36) D 3 7 1600 (wG cy gg z0 (pa (pa (pa P0 4 (fun _ => vNONE)) 5 (fun _ => vNONE)) 6 (fun _ => vNONE))) [(0, .ref (gg 0)), (1, .ref z0)] [] 98
  obtain ⟨P9, hP9⟩ : ∃ zz : Mem, zz = (pa (pa (pa P0 4 (fun _ => vNONE)) 5 (fun _ => vNONE)) 6 (fun _ => vNONE)) := ⟨_, rfl⟩
  rw [← hP9]
  rw [← hP0] at hP9
  show G x l (rmC 1 7 1600 36) D 3 7 1600 (wG cy gg z0 P9) [(0, .ref (gg 0)), (1, .ref z0)] [] 98
  refine g_iconst C (v := 0) dX2_init_98 (by decide) ?_
  refine g_istore_n C (lv' := [(2, .int 0), (0, .ref (gg 0)), (1, .ref z0)]) dX2_init_99 rfl (by decide) rfl ?_
  refine g_loop (σ := Nat × Mem) (fun (a : Nat × Mem) => match a with | (b, P1) => (wG cy gg z0 P1)) (fun (a : Nat × Mem) => match a with | (b, P1) => [(2, .int (nI b)), (0, .ref (gg 0)), (1, .ref z0)]) (fun (a : Nat × Mem) => match a with | (b, P1) => (b ≤ 64) ∧ (∀ c, c < b → P1 7 c = nI c) ∧ (∀ a, ¬ a = 7 → P1 a = P9 a)) (fun (a : Nat × Mem) => match a with | (b, P1) => 64 - b) ?_ (0, P9) (⟨Nat.zero_le _, fun c hc => absurd hc (Nat.not_lt_zero _), fun _ _ => rfl⟩)
  intro a hI ih
  obtain ⟨b, P1⟩ := a
  obtain ⟨i1, i2, i3⟩ : (b ≤ 64) ∧ (∀ c, c < b → P1 7 c = nI c) ∧ (∀ a, ¬ a = 7 → P1 a = P9 a) := hI
  show G x l (rmC 1 7 1600 36) D 3 7 1600 (wG cy gg z0 P1) [(2, .int (nI b)), (0, .ref (gg 0)), (1, .ref z0)] [] 100
  refine g_iload_n C dX2_init_100 0 rfl rfl ?_
  refine g_bipush C (v := 64) dX2_init_101 (by decide) ?_
  refine g_icmp_ge C (tgt := 119) dX2_init_103 (by decide) (fun c1 => ?_) (fun c1 => ?_)
  · skip
    have hb : b = 64 := by have := (nI_leI (a := 64) (by decide) (by omega)).mp c1; omega
    have e3 : P1 3 = P9 3 := i3 3 (by decide)
    have e4 : P1 4 = P9 4 := i3 4 (by decide)
    have e6 : P1 6 = P9 6 := i3 6 (by decide)
    have e0 : P1 0 = P9 0 := i3 0 (by decide)
    have f3 : ∀ p, P1 3 p = 0 := fun p => by rw [e3, hP9]; rfl
    have f4 : ∀ p, P1 4 p = vNONE := fun p => by rw [e4, hP9]; rfl
    have f6 : ∀ p, P1 6 p = vNONE := fun p => by rw [e6, hP9]; rfl
    have f0 : ∀ p, P1 0 p = 0 := fun p => by rw [e0, hP9]; rfl
    exact ret (gg, P1) _ _ dX2_init_119 (⟨rfl, A0_RP (fun p hp => ⟨f3 p, f4 p, f6 p⟩) (fun c hc => i2 c (by omega)) (f0 0) (f0 1), f0 2⟩)
  · skip
    have hb : b < 64 := Nat.lt_of_not_le (fun w => c1 (nI_le w (by omega)))
    refine g_aload_n C dX2_init_106 1 rfl rfl ?_
    refine g_get C 0 (f := 6) (v := .ref (gg 7)) (Cn := RX2) (T := TX2) (N := 11) dX2_init_107 rfl rfl iX2_init_X2 (by decide) mX2_init_f30 rfl ?_
    refine g_iload_n C dX2_init_110 0 rfl rfl ?_
    refine g_iload_n C dX2_init_111 0 rfl rfl ?_
    refine g_iast C 7 0 (f := P1 7) (N := 64) (ws' := (wG cy gg z0 (ps P1 7 b (nI b)))) b dX2_init_112 rfl rfl (by decide) (rfl) (hb) (wG_a7 cy gg z0 P1 b (nI b)) ?_
    refine g_iinc C (q := 0) (v := nI (b + 1)) (lv' := [(2, .int (nI (b + 1))), (0, .ref (gg 0)), (1, .ref z0)]) dX2_init_113 rfl (nI_1 b) (by decide) rfl ?_
    refine g_goto C (tgt := 100) dX2_init_116 (by decide) ?_
    exact ih (b + 1, (ps P1 7 b (nI b))) ⟨by omega, upd_id i2, fun a ha => (show ps P1 7 b (nI b) a = P1 a from by unfold ps; rw [if_neg ha]).trans (i3 a ha)⟩ (by show 64 - (b + 1) < 64 - b; omega)

theorem mX4_init_l1 : Cond.methodLink RX4 1 objectInit ∈ wsX4_init := List.mem_of_getElem? (i := 1) rfl
theorem mX4_init_oi : Cond.instanceMethod objectInit ∈ wsX4_init := List.mem_of_getElem? (i := 2) rfl
theorem mX4_init_oc : Cond.code objectInit ⟨#[0xb1]⟩ 1 none ∈ wsX4_init := List.mem_of_getElem? (i := 3) rfl
theorem mX4_init_aint : Cond.arrayClass .int ∈ wsX4_init := List.mem_of_getElem? (i := 4) rfl
theorem mX4_init_f7 : Cond.fieldLink RX4 7 (TX4 0).1 (TX4 0).2.1 (TX4 0).2.2.1 ∈ wsX4_init := List.mem_of_getElem? (i := 5) rfl
theorem iX4_init_X4 : ∀ w ∈ wsX40, w ∈ wsX4_init := by decide +kernel
theorem mX4_init_f13 : Cond.fieldLink RX4 13 (TX4 1).1 (TX4 1).2.1 (TX4 1).2.2.1 ∈ wsX4_init := List.mem_of_getElem? (i := 6) rfl
theorem mX4_init_f16 : Cond.fieldLink RX4 16 (TX4 2).1 (TX4 2).2.1 (TX4 2).2.2.1 ∈ wsX4_init := List.mem_of_getElem? (i := 7) rfl
theorem mX4_init_f19 : Cond.fieldLink RX4 19 (TX4 3).1 (TX4 3).2.1 (TX4 3).2.2.1 ∈ wsX4_init := List.mem_of_getElem? (i := 8) rfl
theorem mX4_init_aboolean : Cond.arrayClass .boolean ∈ wsX4_init := List.mem_of_getElem? (i := 9) rfl
theorem mX4_init_f22 : Cond.fieldLink RX4 22 (TX4 4).1 (TX4 4).2.1 (TX4 4).2.2.1 ∈ wsX4_init := List.mem_of_getElem? (i := 10) rfl
theorem mX4_init_f26 : Cond.fieldLink RX4 26 (TX4 8).1 (TX4 8).2.1 (TX4 8).2.2.1 ∈ wsX4_init := List.mem_of_getElem? (i := 11) rfl
theorem mX4_init_f29 : Cond.fieldLink RX4 29 (TX4 9).1 (TX4 9).2.1 (TX4 9).2.2.1 ∈ wsX4_init := List.mem_of_getElem? (i := 12) rfl
theorem mX4_init_f32 : Cond.fieldLink RX4 32 (TX4 12).1 (TX4 12).2.1 (TX4 12).2.2.1 ∈ wsX4_init := List.mem_of_getElem? (i := 13) rfl
theorem mX4_init_f35 : Cond.fieldLink RX4 35 (TX4 17).1 (TX4 17).2.1 (TX4 17).2.2.1 ∈ wsX4_init := List.mem_of_getElem? (i := 14) rfl
theorem mX4_init_f38 : Cond.fieldLink RX4 38 (TX4 18).1 (TX4 18).2.1 (TX4 18).2.2.1 ∈ wsX4_init := List.mem_of_getElem? (i := 15) rfl
set_option maxHeartbeats 1600000 in
set_option maxRecDepth 20000 in
theorem c_X4_init (l : Launch) (D : va_G) (cy cz : ClassId) (q : Nat) : MC l yX4_init wsX4_init (rmC 1 10 10896 36) D (tyL cy cz) [.ref q] [(q, .inr (4, [.null, .null, .null, .null, .null, .int 0, .int 0, .int 0, .null, .null, .int 0, .int 0, .null, .int 0, .int 0, .int 0, .int 0, .null, .null, .int 0]))] (fun u : (Nat → Nat) × Mem => u.1 0 = q ∧ RY T0 u.2) (fun u => wM cy cz u.1 u.2) 10 10896 := by
  refine g_entC (cc := cX4_init) (maxL := 1) (own := RX4) (by decide) rfl rfl rfl (Nat.le_of_ble_eq_true rfl) (fun x C hi ret => ?_)
  show G x l (rmC 1 10 10896 36) D 1 0 0 [(q, .inr (4, [.null, .null, .null, .null, .null, .int 0, .int 0, .int 0, .null, .null, .int 0, .int 0, .null, .int 0, .int 0, .int 0, .int 0, .null, .null, .int 0]))] [(0, .ref q)] [] 0
  refine g_aload_n C dX4_init_0 0 rfl rfl ?_
  refine g_obj C dX4_init_1 mX4_init_l1 mX4_init_oi mX4_init_oc (Nat.le_of_ble_eq_true rfl) (Nat.le_of_ble_eq_true rfl) ?_
  refine g_aload_n C dX4_init_4 0 rfl rfl ?_
  refine g_sipush C (v := 512) dX4_init_5 (by decide) ?_
  refine g_newi C 0 (cA := cy) 512 rfl dX4_init_8 mX4_init_aint rfl (by decide) (Nat.le_of_ble_eq_true rfl) (Nat.le_of_ble_eq_true rfl) (fun q8 => ?_)
  show G x l (rmC 1 10 10896 36) D 1 1 512 [(q, .inr (4, [.null, .null, .null, .null, .null, .int 0, .int 0, .int 0, .null, .null, .int 0, .int 0, .null, .int 0, .int 0, .int 0, .int 0, .null, .null, .int 0])), (q8, .inl (cy, 512, .inl (fun _ => 0)))] [(0, .ref q)] [.ref q8, .ref q] 10
  refine g_putF C hi 0 (f := 0) (v := .ref q8) (ty := .array .int) (Cn := RX4) (T := TX4) (N := 20) (ws' := [(q, .inr (4, [.ref q8, .null, .null, .null, .null, .int 0, .int 0, .int 0, .null, .null, .int 0, .int 0, .null, .int 0, .int 0, .int 0, .int 0, .null, .null, .int 0])), (q8, .inl (cy, 512, .inl (fun _ => 0)))]) dX4_init_10 rfl rfl iX4_init_X4 tyX4 tyX4_ok nmX4 (by decide) mX4_init_f7 rfl rfl rfl rfl rfl (Nat.le_of_ble_eq_true rfl) rfl ?_
  refine g_aload_n C dX4_init_13 0 rfl rfl ?_
  refine g_sipush C (v := 512) dX4_init_14 (by decide) ?_
  refine g_newi C 0 (cA := cy) 512 rfl dX4_init_17 mX4_init_aint rfl (by decide) (Nat.le_of_ble_eq_true rfl) (Nat.le_of_ble_eq_true rfl) (fun q17 => ?_)
  show G x l (rmC 1 10 10896 36) D 1 2 1024 [(q, .inr (4, [.ref q8, .null, .null, .null, .null, .int 0, .int 0, .int 0, .null, .null, .int 0, .int 0, .null, .int 0, .int 0, .int 0, .int 0, .null, .null, .int 0])), (q8, .inl (cy, 512, .inl (fun _ => 0))), (q17, .inl (cy, 512, .inl (fun _ => 0)))] [(0, .ref q)] [.ref q17, .ref q] 19
  refine g_putF C hi 0 (f := 1) (v := .ref q17) (ty := .array .int) (Cn := RX4) (T := TX4) (N := 20) (ws' := [(q, .inr (4, [.ref q8, .ref q17, .null, .null, .null, .int 0, .int 0, .int 0, .null, .null, .int 0, .int 0, .null, .int 0, .int 0, .int 0, .int 0, .null, .null, .int 0])), (q8, .inl (cy, 512, .inl (fun _ => 0))), (q17, .inl (cy, 512, .inl (fun _ => 0)))]) dX4_init_19 rfl rfl iX4_init_X4 tyX4 tyX4_ok nmX4 (by decide) mX4_init_f13 rfl rfl rfl rfl rfl (Nat.le_of_ble_eq_true rfl) rfl ?_
  refine g_aload_n C dX4_init_22 0 rfl rfl ?_
  refine g_sipush C (v := 128) dX4_init_23 (by decide) ?_
  refine g_newi C 0 (cA := cy) 128 rfl dX4_init_26 mX4_init_aint rfl (by decide) (Nat.le_of_ble_eq_true rfl) (Nat.le_of_ble_eq_true rfl) (fun q26 => ?_)
  show G x l (rmC 1 10 10896 36) D 1 3 1152 [(q, .inr (4, [.ref q8, .ref q17, .null, .null, .null, .int 0, .int 0, .int 0, .null, .null, .int 0, .int 0, .null, .int 0, .int 0, .int 0, .int 0, .null, .null, .int 0])), (q8, .inl (cy, 512, .inl (fun _ => 0))), (q17, .inl (cy, 512, .inl (fun _ => 0))), (q26, .inl (cy, 128, .inl (fun _ => 0)))] [(0, .ref q)] [.ref q26, .ref q] 28
  refine g_putF C hi 0 (f := 2) (v := .ref q26) (ty := .array .int) (Cn := RX4) (T := TX4) (N := 20) (ws' := [(q, .inr (4, [.ref q8, .ref q17, .ref q26, .null, .null, .int 0, .int 0, .int 0, .null, .null, .int 0, .int 0, .null, .int 0, .int 0, .int 0, .int 0, .null, .null, .int 0])), (q8, .inl (cy, 512, .inl (fun _ => 0))), (q17, .inl (cy, 512, .inl (fun _ => 0))), (q26, .inl (cy, 128, .inl (fun _ => 0)))]) dX4_init_28 rfl rfl iX4_init_X4 tyX4 tyX4_ok nmX4 (by decide) mX4_init_f16 rfl rfl rfl rfl rfl (Nat.le_of_ble_eq_true rfl) rfl ?_
  refine g_aload_n C dX4_init_31 0 rfl rfl ?_
  refine g_sipush C (v := 128) dX4_init_32 (by decide) ?_
  refine g_newi C 0 (cA := cy) 128 rfl dX4_init_35 mX4_init_aint rfl (by decide) (Nat.le_of_ble_eq_true rfl) (Nat.le_of_ble_eq_true rfl) (fun q35 => ?_)
  show G x l (rmC 1 10 10896 36) D 1 4 1280 [(q, .inr (4, [.ref q8, .ref q17, .ref q26, .null, .null, .int 0, .int 0, .int 0, .null, .null, .int 0, .int 0, .null, .int 0, .int 0, .int 0, .int 0, .null, .null, .int 0])), (q8, .inl (cy, 512, .inl (fun _ => 0))), (q17, .inl (cy, 512, .inl (fun _ => 0))), (q26, .inl (cy, 128, .inl (fun _ => 0))), (q35, .inl (cy, 128, .inl (fun _ => 0)))] [(0, .ref q)] [.ref q35, .ref q] 37
  refine g_putF C hi 0 (f := 3) (v := .ref q35) (ty := .array .int) (Cn := RX4) (T := TX4) (N := 20) (ws' := [(q, .inr (4, [.ref q8, .ref q17, .ref q26, .ref q35, .null, .int 0, .int 0, .int 0, .null, .null, .int 0, .int 0, .null, .int 0, .int 0, .int 0, .int 0, .null, .null, .int 0])), (q8, .inl (cy, 512, .inl (fun _ => 0))), (q17, .inl (cy, 512, .inl (fun _ => 0))), (q26, .inl (cy, 128, .inl (fun _ => 0))), (q35, .inl (cy, 128, .inl (fun _ => 0)))]) dX4_init_37 rfl rfl iX4_init_X4 tyX4 tyX4_ok nmX4 (by decide) mX4_init_f19 rfl rfl rfl rfl rfl (Nat.le_of_ble_eq_true rfl) rfl ?_
  refine g_aload_n C dX4_init_40 0 rfl rfl ?_
  refine g_sipush C (v := 128) dX4_init_41 (by decide) ?_
  refine g_newz C 1 (cA := cz) 128 rfl dX4_init_44 mX4_init_aboolean rfl (by decide) (Nat.le_of_ble_eq_true rfl) (Nat.le_of_ble_eq_true rfl) (fun q44 => ?_)
  show G x l (rmC 1 10 10896 36) D 1 5 1408 [(q, .inr (4, [.ref q8, .ref q17, .ref q26, .ref q35, .null, .int 0, .int 0, .int 0, .null, .null, .int 0, .int 0, .null, .int 0, .int 0, .int 0, .int 0, .null, .null, .int 0])), (q8, .inl (cy, 512, .inl (fun _ => 0))), (q17, .inl (cy, 512, .inl (fun _ => 0))), (q26, .inl (cy, 128, .inl (fun _ => 0))), (q35, .inl (cy, 128, .inl (fun _ => 0))), (q44, .inl (cz, 128, .inl (fun _ => 0)))] [(0, .ref q)] [.ref q44, .ref q] 46
  refine g_putF C hi 0 (f := 4) (v := .ref q44) (ty := .array .boolean) (Cn := RX4) (T := TX4) (N := 20) (ws' := [(q, .inr (4, [.ref q8, .ref q17, .ref q26, .ref q35, .ref q44, .int 0, .int 0, .int 0, .null, .null, .int 0, .int 0, .null, .int 0, .int 0, .int 0, .int 0, .null, .null, .int 0])), (q8, .inl (cy, 512, .inl (fun _ => 0))), (q17, .inl (cy, 512, .inl (fun _ => 0))), (q26, .inl (cy, 128, .inl (fun _ => 0))), (q35, .inl (cy, 128, .inl (fun _ => 0))), (q44, .inl (cz, 128, .inl (fun _ => 0)))]) dX4_init_46 rfl rfl iX4_init_X4 tyX4 tyX4_ok nmX4 (by decide) mX4_init_f22 rfl rfl rfl rfl rfl (Nat.le_of_ble_eq_true rfl) rfl ?_
  refine g_aload_n C dX4_init_49 0 rfl rfl ?_
  refine g_sipush C (v := 4200) dX4_init_50 (by decide) ?_
  refine g_newi C 0 (cA := cy) 4200 rfl dX4_init_53 mX4_init_aint rfl (by decide) (Nat.le_of_ble_eq_true rfl) (Nat.le_of_ble_eq_true rfl) (fun q53 => ?_)
  show G x l (rmC 1 10 10896 36) D 1 6 5608 [(q, .inr (4, [.ref q8, .ref q17, .ref q26, .ref q35, .ref q44, .int 0, .int 0, .int 0, .null, .null, .int 0, .int 0, .null, .int 0, .int 0, .int 0, .int 0, .null, .null, .int 0])), (q8, .inl (cy, 512, .inl (fun _ => 0))), (q17, .inl (cy, 512, .inl (fun _ => 0))), (q26, .inl (cy, 128, .inl (fun _ => 0))), (q35, .inl (cy, 128, .inl (fun _ => 0))), (q44, .inl (cz, 128, .inl (fun _ => 0))), (q53, .inl (cy, 4200, .inl (fun _ => 0)))] [(0, .ref q)] [.ref q53, .ref q] 55
  refine g_putF C hi 0 (f := 8) (v := .ref q53) (ty := .array .int) (Cn := RX4) (T := TX4) (N := 20) (ws' := [(q, .inr (4, [.ref q8, .ref q17, .ref q26, .ref q35, .ref q44, .int 0, .int 0, .int 0, .ref q53, .null, .int 0, .int 0, .null, .int 0, .int 0, .int 0, .int 0, .null, .null, .int 0])), (q8, .inl (cy, 512, .inl (fun _ => 0))), (q17, .inl (cy, 512, .inl (fun _ => 0))), (q26, .inl (cy, 128, .inl (fun _ => 0))), (q35, .inl (cy, 128, .inl (fun _ => 0))), (q44, .inl (cz, 128, .inl (fun _ => 0))), (q53, .inl (cy, 4200, .inl (fun _ => 0)))]) dX4_init_55 rfl rfl iX4_init_X4 tyX4 tyX4_ok nmX4 (by decide) mX4_init_f26 rfl rfl rfl rfl rfl (Nat.le_of_ble_eq_true rfl) rfl ?_
  refine g_aload_n C dX4_init_58 0 rfl rfl ?_
  refine g_sipush C (v := 4200) dX4_init_59 (by decide) ?_
  refine g_newi C 0 (cA := cy) 4200 rfl dX4_init_62 mX4_init_aint rfl (by decide) (Nat.le_of_ble_eq_true rfl) (Nat.le_of_ble_eq_true rfl) (fun q62 => ?_)
  show G x l (rmC 1 10 10896 36) D 1 7 9808 [(q, .inr (4, [.ref q8, .ref q17, .ref q26, .ref q35, .ref q44, .int 0, .int 0, .int 0, .ref q53, .null, .int 0, .int 0, .null, .int 0, .int 0, .int 0, .int 0, .null, .null, .int 0])), (q8, .inl (cy, 512, .inl (fun _ => 0))), (q17, .inl (cy, 512, .inl (fun _ => 0))), (q26, .inl (cy, 128, .inl (fun _ => 0))), (q35, .inl (cy, 128, .inl (fun _ => 0))), (q44, .inl (cz, 128, .inl (fun _ => 0))), (q53, .inl (cy, 4200, .inl (fun _ => 0))), (q62, .inl (cy, 4200, .inl (fun _ => 0)))] [(0, .ref q)] [.ref q62, .ref q] 64
  refine g_putF C hi 0 (f := 9) (v := .ref q62) (ty := .array .int) (Cn := RX4) (T := TX4) (N := 20) (ws' := [(q, .inr (4, [.ref q8, .ref q17, .ref q26, .ref q35, .ref q44, .int 0, .int 0, .int 0, .ref q53, .ref q62, .int 0, .int 0, .null, .int 0, .int 0, .int 0, .int 0, .null, .null, .int 0])), (q8, .inl (cy, 512, .inl (fun _ => 0))), (q17, .inl (cy, 512, .inl (fun _ => 0))), (q26, .inl (cy, 128, .inl (fun _ => 0))), (q35, .inl (cy, 128, .inl (fun _ => 0))), (q44, .inl (cz, 128, .inl (fun _ => 0))), (q53, .inl (cy, 4200, .inl (fun _ => 0))), (q62, .inl (cy, 4200, .inl (fun _ => 0)))]) dX4_init_64 rfl rfl iX4_init_X4 tyX4 tyX4_ok nmX4 (by decide) mX4_init_f29 rfl rfl rfl rfl rfl (Nat.le_of_ble_eq_true rfl) rfl ?_
  refine g_aload_n C dX4_init_67 0 rfl rfl ?_
  refine g_bipush C (v := 64) dX4_init_68 (by decide) ?_
  refine g_newi C 0 (cA := cy) 64 rfl dX4_init_70 mX4_init_aint rfl (by decide) (Nat.le_of_ble_eq_true rfl) (Nat.le_of_ble_eq_true rfl) (fun q70 => ?_)
  show G x l (rmC 1 10 10896 36) D 1 8 9872 [(q, .inr (4, [.ref q8, .ref q17, .ref q26, .ref q35, .ref q44, .int 0, .int 0, .int 0, .ref q53, .ref q62, .int 0, .int 0, .null, .int 0, .int 0, .int 0, .int 0, .null, .null, .int 0])), (q8, .inl (cy, 512, .inl (fun _ => 0))), (q17, .inl (cy, 512, .inl (fun _ => 0))), (q26, .inl (cy, 128, .inl (fun _ => 0))), (q35, .inl (cy, 128, .inl (fun _ => 0))), (q44, .inl (cz, 128, .inl (fun _ => 0))), (q53, .inl (cy, 4200, .inl (fun _ => 0))), (q62, .inl (cy, 4200, .inl (fun _ => 0))), (q70, .inl (cy, 64, .inl (fun _ => 0)))] [(0, .ref q)] [.ref q70, .ref q] 72
  refine g_putF C hi 0 (f := 12) (v := .ref q70) (ty := .array .int) (Cn := RX4) (T := TX4) (N := 20) (ws' := [(q, .inr (4, [.ref q8, .ref q17, .ref q26, .ref q35, .ref q44, .int 0, .int 0, .int 0, .ref q53, .ref q62, .int 0, .int 0, .ref q70, .int 0, .int 0, .int 0, .int 0, .null, .null, .int 0])), (q8, .inl (cy, 512, .inl (fun _ => 0))), (q17, .inl (cy, 512, .inl (fun _ => 0))), (q26, .inl (cy, 128, .inl (fun _ => 0))), (q35, .inl (cy, 128, .inl (fun _ => 0))), (q44, .inl (cz, 128, .inl (fun _ => 0))), (q53, .inl (cy, 4200, .inl (fun _ => 0))), (q62, .inl (cy, 4200, .inl (fun _ => 0))), (q70, .inl (cy, 64, .inl (fun _ => 0)))]) dX4_init_72 rfl rfl iX4_init_X4 tyX4 tyX4_ok nmX4 (by decide) mX4_init_f32 rfl rfl rfl rfl rfl (Nat.le_of_ble_eq_true rfl) rfl ?_
  refine g_aload_n C dX4_init_75 0 rfl rfl ?_
  refine g_sipush C (v := 512) dX4_init_76 (by decide) ?_
  refine g_newi C 0 (cA := cy) 512 rfl dX4_init_79 mX4_init_aint rfl (by decide) (Nat.le_of_ble_eq_true rfl) (Nat.le_of_ble_eq_true rfl) (fun q79 => ?_)
  show G x l (rmC 1 10 10896 36) D 1 9 10384 [(q, .inr (4, [.ref q8, .ref q17, .ref q26, .ref q35, .ref q44, .int 0, .int 0, .int 0, .ref q53, .ref q62, .int 0, .int 0, .ref q70, .int 0, .int 0, .int 0, .int 0, .null, .null, .int 0])), (q8, .inl (cy, 512, .inl (fun _ => 0))), (q17, .inl (cy, 512, .inl (fun _ => 0))), (q26, .inl (cy, 128, .inl (fun _ => 0))), (q35, .inl (cy, 128, .inl (fun _ => 0))), (q44, .inl (cz, 128, .inl (fun _ => 0))), (q53, .inl (cy, 4200, .inl (fun _ => 0))), (q62, .inl (cy, 4200, .inl (fun _ => 0))), (q70, .inl (cy, 64, .inl (fun _ => 0))), (q79, .inl (cy, 512, .inl (fun _ => 0)))] [(0, .ref q)] [.ref q79, .ref q] 81
  refine g_putF C hi 0 (f := 17) (v := .ref q79) (ty := .array .int) (Cn := RX4) (T := TX4) (N := 20) (ws' := [(q, .inr (4, [.ref q8, .ref q17, .ref q26, .ref q35, .ref q44, .int 0, .int 0, .int 0, .ref q53, .ref q62, .int 0, .int 0, .ref q70, .int 0, .int 0, .int 0, .int 0, .ref q79, .null, .int 0])), (q8, .inl (cy, 512, .inl (fun _ => 0))), (q17, .inl (cy, 512, .inl (fun _ => 0))), (q26, .inl (cy, 128, .inl (fun _ => 0))), (q35, .inl (cy, 128, .inl (fun _ => 0))), (q44, .inl (cz, 128, .inl (fun _ => 0))), (q53, .inl (cy, 4200, .inl (fun _ => 0))), (q62, .inl (cy, 4200, .inl (fun _ => 0))), (q70, .inl (cy, 64, .inl (fun _ => 0))), (q79, .inl (cy, 512, .inl (fun _ => 0)))]) dX4_init_81 rfl rfl iX4_init_X4 tyX4 tyX4_ok nmX4 (by decide) mX4_init_f35 rfl rfl rfl rfl rfl (Nat.le_of_ble_eq_true rfl) rfl ?_
  refine g_aload_n C dX4_init_84 0 rfl rfl ?_
  refine g_sipush C (v := 512) dX4_init_85 (by decide) ?_
  refine g_newi C 0 (cA := cy) 512 rfl dX4_init_88 mX4_init_aint rfl (by decide) (Nat.le_of_ble_eq_true rfl) (Nat.le_of_ble_eq_true rfl) (fun q88 => ?_)
  show G x l (rmC 1 10 10896 36) D 1 10 10896 [(q, .inr (4, [.ref q8, .ref q17, .ref q26, .ref q35, .ref q44, .int 0, .int 0, .int 0, .ref q53, .ref q62, .int 0, .int 0, .ref q70, .int 0, .int 0, .int 0, .int 0, .ref q79, .null, .int 0])), (q8, .inl (cy, 512, .inl (fun _ => 0))), (q17, .inl (cy, 512, .inl (fun _ => 0))), (q26, .inl (cy, 128, .inl (fun _ => 0))), (q35, .inl (cy, 128, .inl (fun _ => 0))), (q44, .inl (cz, 128, .inl (fun _ => 0))), (q53, .inl (cy, 4200, .inl (fun _ => 0))), (q62, .inl (cy, 4200, .inl (fun _ => 0))), (q70, .inl (cy, 64, .inl (fun _ => 0))), (q79, .inl (cy, 512, .inl (fun _ => 0))), (q88, .inl (cy, 512, .inl (fun _ => 0)))] [(0, .ref q)] [.ref q88, .ref q] 90
  refine g_putF C hi 0 (f := 18) (v := .ref q88) (ty := .array .int) (Cn := RX4) (T := TX4) (N := 20) (ws' := [(q, .inr (4, [.ref q8, .ref q17, .ref q26, .ref q35, .ref q44, .int 0, .int 0, .int 0, .ref q53, .ref q62, .int 0, .int 0, .ref q70, .int 0, .int 0, .int 0, .int 0, .ref q79, .ref q88, .int 0])), (q8, .inl (cy, 512, .inl (fun _ => 0))), (q17, .inl (cy, 512, .inl (fun _ => 0))), (q26, .inl (cy, 128, .inl (fun _ => 0))), (q35, .inl (cy, 128, .inl (fun _ => 0))), (q44, .inl (cz, 128, .inl (fun _ => 0))), (q53, .inl (cy, 4200, .inl (fun _ => 0))), (q62, .inl (cy, 4200, .inl (fun _ => 0))), (q70, .inl (cy, 64, .inl (fun _ => 0))), (q79, .inl (cy, 512, .inl (fun _ => 0))), (q88, .inl (cy, 512, .inl (fun _ => 0)))]) dX4_init_90 rfl rfl iX4_init_X4 tyX4 tyX4_ok nmX4 (by decide) mX4_init_f38 rfl rfl rfl rfl rfl (Nat.le_of_ble_eq_true rfl) rfl ?_
  obtain ⟨gg, rfl, rfl, rfl, rfl, rfl, rfl, rfl, rfl, rfl, rfl, rfl⟩ : ∃ gg : Nat → Nat, gg 0 = q ∧ gg 1 = q8 ∧ gg 2 = q17 ∧ gg 3 = q26 ∧ gg 4 = q35 ∧ gg 5 = q44 ∧ gg 6 = q53 ∧ gg 7 = q62 ∧ gg 8 = q70 ∧ gg 9 = q79 ∧ gg 10 = q88 := ⟨(fun i => if i = 0 then q else if i = 1 then q8 else if i = 2 then q17 else if i = 3 then q26 else if i = 4 then q35 else if i = 5 then q44 else if i = 6 then q53 else if i = 7 then q62 else if i = 8 then q70 else if i = 9 then q79 else q88), rfl, rfl, rfl, rfl, rfl, rfl, rfl, rfl, rfl, rfl, rfl⟩
  show G x l (rmC 1 10 10896 36) D 1 10 10896 (wM cy cz gg (fun _ _ => 0)) [(0, .ref (gg 0))] [] 93
  generalize hP0 : (fun (_ _ : Nat) => (0 : Int32)) = P0
  show G x l (rmC 1 10 10896 36) D 1 10 10896 (wM cy cz gg P0) [(0, .ref (gg 0))] [] 93
  refine g_aload_n C dX4_init_93 0 rfl rfl ?_
  refine g_callVV C [0, 1, 2, 3, 4, 5, 6, 7, 8, 9, 10] [] [0, 1, 2, 3, 4, 5, 6, 7, 8, 9, 10] 0 4 (b := gg 0) rfl rfl (As := []) (rest := []) (wr := ([] : va_W)) (wf := fun M1 => (wM cy cz gg M1)) dX4_init_94 gX4_init_X4_clear rfl dmX4_clear ⟨rfl, rfl, Nat.le_of_ble_eq_true rfl, Nat.le_of_ble_eq_true rfl, Nat.le_of_ble_eq_true rfl, Nat.le_of_ble_eq_true rfl⟩ (c_X4_clear l D cy cz gg P0) ⟨rfl, rfl, rfl, rfl, by decide, rfl, fun _ => rfl⟩ (Nat.le_of_ble_eq_true rfl) ?_
  intro M1 hp1
  show G x l (rmC 1 10 10896 36) D 1 10 10896 (wM cy cz gg M1) [(0, .ref (gg 0))] [] 97
  exact ret (gg, M1) _ _ dX4_init_97 (⟨rfl, T0_RY hP0 hp1⟩)

theorem mX3_init_l3 : Cond.methodLink RX3 3 objectInit ∈ wsX3_init := List.mem_of_getElem? (i := 1) rfl
theorem mX3_init_oi : Cond.instanceMethod objectInit ∈ wsX3_init := List.mem_of_getElem? (i := 2) rfl
theorem mX3_init_oc : Cond.code objectInit ⟨#[0xb1]⟩ 1 none ∈ wsX3_init := List.mem_of_getElem? (i := 3) rfl
theorem iX3_init_X0 : ∀ w ∈ wsX00, w ∈ wsX3_init := by decide +kernel
theorem mX3_init_n9 : Cond.classLink RX3 9 RX0 ∈ wsX3_init := List.mem_of_getElem? (i := 4) rfl
theorem mX3_init_tX0 : Cond.instantiable RX0 3 ∈ wsX3_init := List.mem_of_getElem? (i := 5) rfl
theorem mX3_init_zX0 : Cond.initialized RX0 ∈ wsX3_init := List.mem_of_getElem? (i := 6) rfl
theorem mX3_init_iX0 : Cond.instanceMethod yX0_init ∈ wsX3_init := List.mem_of_getElem? (i := 16) rfl
theorem iX3_init_X2 : ∀ w ∈ wsX20, w ∈ wsX3_init := by decide +kernel
theorem mX3_init_n12 : Cond.classLink RX3 12 RX2 ∈ wsX3_init := List.mem_of_getElem? (i := 7) rfl
theorem mX3_init_tX2 : Cond.instantiable RX2 11 ∈ wsX3_init := List.mem_of_getElem? (i := 8) rfl
theorem mX3_init_zX2 : Cond.initialized RX2 ∈ wsX3_init := List.mem_of_getElem? (i := 9) rfl
theorem mX3_init_kX2 : Cond.methodLink RX3 14 yX2_init ∈ wsX3_init := List.mem_of_getElem? (i := 22) rfl
theorem mX3_init_iX2 : Cond.instanceMethod yX2_init ∈ wsX3_init := List.mem_of_getElem? (i := 23) rfl
theorem mX3_init_f17 : Cond.fieldLink RX3 17 (TX3 0).1 (TX3 0).2.1 (TX3 0).2.2.1 ∈ wsX3_init := List.mem_of_getElem? (i := 10) rfl
theorem iX3_init_X3 : ∀ w ∈ wsX30, w ∈ wsX3_init := by decide +kernel
theorem mX3_init_f21 : Cond.fieldLink RX3 21 (TX3 1).1 (TX3 1).2.1 (TX3 1).2.2.1 ∈ wsX3_init := List.mem_of_getElem? (i := 11) rfl
theorem iX3_init_X1 : ∀ w ∈ wsX10, w ∈ wsX3_init := by decide +kernel
theorem mX3_init_n24 : Cond.classLink RX3 24 RX1 ∈ wsX3_init := List.mem_of_getElem? (i := 12) rfl
theorem mX3_init_tX1 : Cond.instantiable RX1 8 ∈ wsX3_init := List.mem_of_getElem? (i := 13) rfl
theorem mX3_init_zX1 : Cond.initialized RX1 ∈ wsX3_init := List.mem_of_getElem? (i := 14) rfl
theorem mX3_init_iX1 : Cond.instanceMethod yX1_init ∈ wsX3_init := List.mem_of_getElem? (i := 39) rfl
theorem mX3_init_f27 : Cond.fieldLink RX3 27 (TX3 2).1 (TX3 2).2.1 (TX3 2).2.2.1 ∈ wsX3_init := List.mem_of_getElem? (i := 15) rfl
set_option maxHeartbeats 1600000 in
set_option maxRecDepth 20000 in
theorem c_X3_init (l : Launch) (D : va_G) (cy cz : ClassId) (q : Nat) : MC l yX3_init wsX3_init (rmC 2 24 4017 72) D (tyL cy cz) [.ref q] [(q, .inr (3, [.null, .null, .null, .int 0, .int 0]))] (fun u : (Nat → Nat) × (Nat → Nat) × (Nat → Nat) × (Nat → Nat) × (Nat → Nat) × M5 => u.1 0 = q ∧ RX T0 u.2.2.2.2.2) (fun u => wB u.1 (u.2.1 0) (u.2.2.1 0) (u.2.2.2.1 0) u.2.2.2.2.2.1 ++ (wG cy u.2.1 (u.2.2.2.2.1 0) u.2.2.2.2.2.2.1 ++ (wG cy u.2.2.1 (u.2.2.2.2.1 0) u.2.2.2.2.2.2.2.1 ++ (wJ cy u.2.2.2.1 u.2.2.2.2.2.2.2.2.1 ++ wZ cy u.2.2.2.2.1 u.2.2.2.2.2.2.2.2.2)))) 24 4017 := by
  refine g_entC (cc := cX3_init) (maxL := 2) (own := RX3) (by decide) rfl rfl rfl (Nat.le_of_ble_eq_true rfl) (fun x C hi ret => ?_)
  show G x l (rmC 2 24 4017 72) D 2 0 0 ([(q, .inr (3, [.null, .null, .null, .int 0, .int 0]))]) [(0, .ref q)] [] 0
  refine g_aload_n C dX3_init_0 0 rfl rfl ?_
  refine g_obj C dX3_init_1 mX3_init_l3 mX3_init_oi mX3_init_oc (Nat.le_of_ble_eq_true rfl) (Nat.le_of_ble_eq_true rfl) ?_
  refine g_new C (Cn := RX0) (T := TX0) (N := 3) (ci := 0) (fs := [.null, .null, .int 0]) dX3_init_4 iX3_init_X0 tyX0 tyX0_ok mX3_init_n9 mX3_init_tX0 mX3_init_zX0 rfl (fun j hj => by rcases (show j = 0 ∨ j = 1 ∨ j = 2 by omega) with rfl | rfl | rfl <;> rfl) (Nat.le_of_ble_eq_true rfl) (Nat.le_of_ble_eq_true rfl) (fun q1 => ?_)
  show G x l (rmC 2 24 4017 72) D 2 1 3 ([(q, .inr (3, [.null, .null, .null, .int 0, .int 0]))] ++ [(q1, .inr (0, [.null, .null, .int 0]))]) [(0, .ref q)] [.ref q1] 7
  refine g_dup C dX3_init_7 rfl ?_
  refine g_callCN C [1] [0] [0, 1, 2, 3] (As := []) (rest := [.ref q1]) (b := q1) (wr := [(q, .inr (3, [.null, .null, .null, .int 0, .int 0]))]) (wf := fun z => [(q, .inr (3, [.null, .null, .null, .int 0, .int 0]))] ++ wZ cy z (fun _ _ => 0)) dX3_init_8 gX3_init_X0_init_n11 rfl dmX0_init rfl mX3_init_zX0 (fun U h => h.2.1) mX3_init_iX0 ⟨rfl, rfl, (Nat.le_of_ble_eq_true rfl), (Nat.le_of_ble_eq_true rfl), (Nat.le_of_ble_eq_true rfl), (Nat.le_of_ble_eq_true rfl)⟩ (c_X0_init l D cy cz q1) ⟨rfl, rfl, rfl, rfl, by decide, rfl, fun _ => rfl⟩ (Nat.le_of_ble_eq_true rfl) ?_
  rintro z rfl
  show G x l (rmC 2 24 4017 72) D 2 3 531 ([(q, .inr (3, [.null, .null, .null, .int 0, .int 0]))] ++ wZ cy z (fun _ _ => 0)) [(0, .ref q)] [.ref (z 0)] 11
  refine g_astore_n C (lv' := [(1, .ref (z 0)), (0, .ref q)]) dX3_init_11 rfl (by decide) rfl ?_
  refine g_aload_n C dX3_init_12 1 rfl rfl ?_
  refine g_new C (Cn := RX2) (T := TX2) (N := 11) (ci := 2) (fs := [.null, .null, .null, .null, .null, .null, .null, .null, .int 0, .int 0, .int 0]) dX3_init_13 iX3_init_X2 tyX2 tyX2_ok mX3_init_n12 mX3_init_tX2 mX3_init_zX2 rfl (fun j hj => by rcases (show j = 0 ∨ j = 1 ∨ j = 2 ∨ j = 3 ∨ j = 4 ∨ j = 5 ∨ j = 6 ∨ j = 7 ∨ j = 8 ∨ j = 9 ∨ j = 10 by omega) with rfl | rfl | rfl | rfl | rfl | rfl | rfl | rfl | rfl | rfl | rfl <;> rfl) (Nat.le_of_ble_eq_true rfl) (Nat.le_of_ble_eq_true rfl) (fun q2 => ?_)
  show G x l (rmC 2 24 4017 72) D 2 4 542 ([(q, .inr (3, [.null, .null, .null, .int 0, .int 0]))] ++ wZ cy z (fun _ _ => 0) ++ [(q2, .inr (2, [.null, .null, .null, .null, .null, .null, .null, .null, .int 0, .int 0, .int 0]))]) [(1, .ref (z 0)), (0, .ref q)] [.ref q2, .ref q] 16
  refine g_dup C dX3_init_16 rfl ?_
  refine g_aload_n C dX3_init_17 0 rfl rfl ?_
  refine g_callC C [4] [0, 1, 2, 3] [0, 1, 2, 3, 4, 5, 6, 7, 8, 9, 10, 11] (As := [.ref (z 0)]) (rest := [.ref q2, .ref q]) (b := q2) (wr := ([(q, .inr (3, [.null, .null, .null, .int 0, .int 0]))] ++ wZ cy z (fun _ _ => 0))) (wf := fun u => ([(q, .inr (3, [.null, .null, .null, .int 0, .int 0]))] ++ wZ cy z (fun _ _ => 0)) ++ wG cy u.1 (z 0) u.2) dX3_init_18 gX3_init_X2_init rfl dmX2_init rfl mX3_init_zX2 mX3_init_kX2 mX3_init_iX2 ⟨rfl, rfl, (Nat.le_of_ble_eq_true rfl), (Nat.le_of_ble_eq_true rfl), (Nat.le_of_ble_eq_true rfl), (Nat.le_of_ble_eq_true rfl)⟩ (c_X2_init l D cy cz q2 (z 0)) ⟨rfl, rfl, rfl, rfl, by decide, rfl, fun _ => rfl⟩ (Nat.le_of_ble_eq_true rfl) ?_
  rintro ⟨g, P⟩ ⟨h0g, hRg, hEg⟩
  have h0g : g 0 = q2 := h0g
  subst h0g
  show G x l (rmC 2 24 4017 72) D 2 11 2142 (([(q, .inr (3, [.null, .null, .null, .int 0, .int 0]))] ++ wZ cy z (fun _ _ => 0)) ++ wG cy g (z 0) P) [(1, .ref (z 0)), (0, .ref q)] [.ref (g 0), .ref q] 21
  refine g_putF C hi 0 (f := 0) (v := .ref (g 0)) (ty := .object "PageBuckets$Pages") (Cn := RX3) (T := TX3) (N := 5) (ws' := (([(q, .inr (3, [.ref (g 0), .null, .null, .int 0, .int 0]))] ++ wZ cy z (fun _ _ => 0)) ++ wG cy g (z 0) P)) dX3_init_21 rfl rfl iX3_init_X3 tyX3 tyX3_ok nmX3 (by decide) mX3_init_f17 rfl rfl rfl rfl rfl (Nat.le_of_ble_eq_true rfl) rfl ?_
  refine g_aload_n C dX3_init_24 1 rfl rfl ?_
  refine g_new C (Cn := RX2) (T := TX2) (N := 11) (ci := 2) (fs := [.null, .null, .null, .null, .null, .null, .null, .null, .int 0, .int 0, .int 0]) dX3_init_25 iX3_init_X2 tyX2 tyX2_ok mX3_init_n12 mX3_init_tX2 mX3_init_zX2 rfl (fun j hj => by rcases (show j = 0 ∨ j = 1 ∨ j = 2 ∨ j = 3 ∨ j = 4 ∨ j = 5 ∨ j = 6 ∨ j = 7 ∨ j = 8 ∨ j = 9 ∨ j = 10 by omega) with rfl | rfl | rfl | rfl | rfl | rfl | rfl | rfl | rfl | rfl | rfl <;> rfl) (Nat.le_of_ble_eq_true rfl) (Nat.le_of_ble_eq_true rfl) (fun q3 => ?_)
  show G x l (rmC 2 24 4017 72) D 2 12 2153 (([(q, .inr (3, [.ref (g 0), .null, .null, .int 0, .int 0]))] ++ wZ cy z (fun _ _ => 0)) ++ wG cy g (z 0) P ++ [(q3, .inr (2, [.null, .null, .null, .null, .null, .null, .null, .null, .int 0, .int 0, .int 0]))]) [(1, .ref (z 0)), (0, .ref q)] [.ref q3, .ref q] 28
  refine g_dup C dX3_init_28 rfl ?_
  refine g_aload_n C dX3_init_29 0 rfl rfl ?_
  refine g_callC C [12] [0, 1, 2, 3, 4, 5, 6, 7, 8, 9, 10, 11] [0, 1, 2, 3, 4, 5, 6, 7, 8, 9, 10, 11, 12, 13, 14, 15, 16, 17, 18, 19] (As := [.ref (z 0)]) (rest := [.ref q3, .ref q]) (b := q3) (wr := (([(q, .inr (3, [.ref (g 0), .null, .null, .int 0, .int 0]))] ++ wZ cy z (fun _ _ => 0)) ++ wG cy g (z 0) P)) (wf := fun u => (([(q, .inr (3, [.ref (g 0), .null, .null, .int 0, .int 0]))] ++ wZ cy z (fun _ _ => 0)) ++ wG cy g (z 0) P) ++ wG cy u.1 (z 0) u.2) dX3_init_30 gX3_init_X2_init rfl dmX2_init rfl mX3_init_zX2 mX3_init_kX2 mX3_init_iX2 ⟨rfl, rfl, (Nat.le_of_ble_eq_true rfl), (Nat.le_of_ble_eq_true rfl), (Nat.le_of_ble_eq_true rfl), (Nat.le_of_ble_eq_true rfl)⟩ (c_X2_init l D cy cz q3 (z 0)) ⟨rfl, rfl, rfl, rfl, by decide, rfl, fun _ => rfl⟩ (Nat.le_of_ble_eq_true rfl) ?_
  rintro ⟨h, O⟩ ⟨h0h, hRh, hEh⟩
  have h0h : h 0 = q3 := h0h
  subst h0h
  show G x l (rmC 2 24 4017 72) D 2 19 3753 ((([(q, .inr (3, [.ref (g 0), .null, .null, .int 0, .int 0]))] ++ wZ cy z (fun _ _ => 0)) ++ wG cy g (z 0) P) ++ wG cy h (z 0) O) [(1, .ref (z 0)), (0, .ref q)] [.ref (h 0), .ref q] 33
  refine g_putF C hi 0 (f := 1) (v := .ref (h 0)) (ty := .object "PageBuckets$Pages") (Cn := RX3) (T := TX3) (N := 5) (ws' := ((([(q, .inr (3, [.ref (g 0), .ref (h 0), .null, .int 0, .int 0]))] ++ wZ cy z (fun _ _ => 0)) ++ wG cy g (z 0) P) ++ wG cy h (z 0) O)) dX3_init_33 rfl rfl iX3_init_X3 tyX3 tyX3_ok nmX3 (by decide) mX3_init_f21 rfl rfl rfl rfl rfl (Nat.le_of_ble_eq_true rfl) rfl ?_
  refine g_aload_n C dX3_init_36 1 rfl rfl ?_
  refine g_new C (Cn := RX1) (T := TX1) (N := 8) (ci := 1) (fs := [.null, .null, .null, .null, .int 0, .int 0, .int 0, .int 0]) dX3_init_37 iX3_init_X1 tyX1 tyX1_ok mX3_init_n24 mX3_init_tX1 mX3_init_zX1 rfl (fun j hj => by rcases (show j = 0 ∨ j = 1 ∨ j = 2 ∨ j = 3 ∨ j = 4 ∨ j = 5 ∨ j = 6 ∨ j = 7 by omega) with rfl | rfl | rfl | rfl | rfl | rfl | rfl | rfl <;> rfl) (Nat.le_of_ble_eq_true rfl) (Nat.le_of_ble_eq_true rfl) (fun q4 => ?_)
  show G x l (rmC 2 24 4017 72) D 2 20 3761 (((([(q, .inr (3, [.ref (g 0), .ref (h 0), .null, .int 0, .int 0]))] ++ wZ cy z (fun _ _ => 0)) ++ wG cy g (z 0) P) ++ wG cy h (z 0) O) ++ [(q4, .inr (1, [.null, .null, .null, .null, .int 0, .int 0, .int 0, .int 0]))]) [(1, .ref (z 0)), (0, .ref q)] [.ref q4, .ref q] 40
  refine g_dup C dX3_init_40 rfl ?_
  refine g_callCN C [20] [0, 1, 2, 3, 4, 5, 6, 7, 8, 9, 10, 11, 12, 13, 14, 15, 16, 17, 18, 19] [0, 1, 2, 3, 4, 5, 6, 7, 8, 9, 10, 11, 12, 13, 14, 15, 16, 17, 18, 19, 20, 21, 22, 23, 24] (As := []) (rest := [.ref q4, .ref q]) (b := q4) (wr := ((([(q, .inr (3, [.ref (g 0), .ref (h 0), .null, .int 0, .int 0]))] ++ wZ cy z (fun _ _ => 0)) ++ wG cy g (z 0) P) ++ wG cy h (z 0) O)) (wf := fun j => ((([(q, .inr (3, [.ref (g 0), .ref (h 0), .null, .int 0, .int 0]))] ++ wZ cy z (fun _ _ => 0)) ++ wG cy g (z 0) P) ++ wG cy h (z 0) O) ++ wJ cy j (fun _ _ => 0)) dX3_init_41 gX3_init_X1_init_n26 rfl dmX1_init rfl mX3_init_zX1 (fun U h => h.2.2) mX3_init_iX1 ⟨rfl, rfl, (Nat.le_of_ble_eq_true rfl), (Nat.le_of_ble_eq_true rfl), (Nat.le_of_ble_eq_true rfl), (Nat.le_of_ble_eq_true rfl)⟩ (c_X1_init l D cy cz q4) ⟨rfl, rfl, rfl, rfl, by decide, rfl, fun _ => rfl⟩ (Nat.le_of_ble_eq_true rfl) ?_
  rintro j rfl
  show G x l (rmC 2 24 4017 72) D 2 24 4017 (((([(q, .inr (3, [.ref (g 0), .ref (h 0), .null, .int 0, .int 0]))] ++ wZ cy z (fun _ _ => 0)) ++ wG cy g (z 0) P) ++ wG cy h (z 0) O) ++ wJ cy j (fun _ _ => 0)) [(1, .ref (z 0)), (0, .ref q)] [.ref (j 0), .ref q] 44
  refine g_putF C hi 0 (f := 2) (v := .ref (j 0)) (ty := .object "PageBuckets$Journal") (Cn := RX3) (T := TX3) (N := 5) (ws' := (((([(q, .inr (3, [.ref (g 0), .ref (h 0), .ref (j 0), .int 0, .int 0]))] ++ wZ cy z (fun _ _ => 0)) ++ wG cy g (z 0) P) ++ wG cy h (z 0) O) ++ wJ cy j (fun _ _ => 0))) dX3_init_44 rfl rfl iX3_init_X3 tyX3 tyX3_ok nmX3 (by decide) mX3_init_f27 rfl rfl rfl rfl rfl (Nat.le_of_ble_eq_true rfl) rfl ?_
  refine g_ws (ws' := wB (fun _ => q) (g 0) (h 0) (j 0) (fun _ _ => 0) ++ (wG cy g (z 0) P ++ (wG cy h (z 0) O ++ (wJ cy j (fun _ _ => 0) ++ wZ cy z (fun _ _ => 0))))) [0, 4, 5, 6, 7, 8, 9, 10, 11, 12, 13, 14, 15, 16, 17, 18, 19, 20, 21, 22, 23, 24, 1, 2, 3] rfl rfl ?_
  exact ret ((fun _ => q), g, h, j, z, (fun _ _ => 0), P, O, (fun _ _ => 0), (fun _ _ => 0)) _ _ dX3_init_47 ⟨rfl, T0_RX hRg hEg hRh hEh⟩
