/-! made by wip/whole/gen.py and m1.py -/
theorem lf_lt {fr : Nat → Bool} {p r : Nat} (h : lfrF fr (128 - p) p = some r) : p < 128 := by
  rcases Nat.lt_or_ge p 128 with w | w
  · exact w
  · rw [show 128 - p = 0 by omega] at h; cases h
theorem RH_cl {M : Mem} {h : EL} {q : Nat} {x : Int32} (hz : RH M h) : RH (ps (ps (ps M 3 q 0) 4 q vNONE) 5 q x) h := hz
theorem mX4_base_f45 : Cond.fieldLink RX4 45 (TX4 5).1 (TX4 5).2.1 (TX4 5).2.2.1 ∈ wsX4_base := List.mem_of_getElem? (i := 1) rfl
theorem iX4_base_X4 : ∀ w ∈ wsX40, w ∈ wsX4_base := by decide +kernel
set_option maxHeartbeats 1600000 in
set_option maxRecDepth 20000 in
theorem c_X4_base (l : Launch) (D : va_G) (cy cz : ClassId) (m : Nat → Nat) (M : Mem) : MId l yX4_base wsX4_base (rmF 0 0) D (tyL cy cz) [.ref (m 0)] (wM cy cz m M) (4 <<< (M 0 0 &&& 31)) (wM cy cz m M) := by
  refine g_entI (cc := cX4_base) (maxL := 1) (own := RX4) (by decide) rfl rfl (Nat.le_of_ble_eq_true rfl) (fun x C ret => ?_)
  show G x l (rmF 0 0) D 1 0 0 (wM cy cz m M) [(0, .ref (m 0))] [] 0
  refine g_iconst C (v := 4) dX4_base_0 (by decide) ?_
  refine g_aload_n C dX4_base_1 0 rfl rfl ?_
  refine g_get C 0 (f := 5) (v := .int (M 0 0)) (Cn := RX4) (T := TX4) (N := 20) dX4_base_2 rfl rfl iX4_base_X4 (by decide) mX4_base_f45 rfl ?_
  refine g_ishl C dX4_base_5 ?_
  exact ret _ () _ _ dX4_base_6 rfl

theorem mX4_buckets_f49 : Cond.fieldLink RX4 49 (TX4 6).1 (TX4 6).2.1 (TX4 6).2.2.1 ∈ wsX4_buckets := List.mem_of_getElem? (i := 1) rfl
theorem iX4_buckets_X4 : ∀ w ∈ wsX40, w ∈ wsX4_buckets := by decide +kernel
set_option maxHeartbeats 1600000 in
set_option maxRecDepth 20000 in
theorem c_X4_buckets (l : Launch) (D : va_G) (cy cz : ClassId) (m : Nat → Nat) (M : Mem) : MId l yX4_buckets wsX4_buckets (rmF 1 36) D (tyL cy cz) [.ref (m 0)] (wM cy cz m M) ((4 <<< (M 0 0 &&& 31)) + M 0 1) (wM cy cz m M) := by
  refine g_entI (cc := cX4_buckets) (maxL := 1) (own := RX4) (by decide) rfl rfl (Nat.le_of_ble_eq_true rfl) (fun x C ret => ?_)
  show G x l (rmF 1 36) D 1 0 0 (wM cy cz m M) [(0, .ref (m 0))] [] 0
  refine g_aload_n C dX4_buckets_0 0 rfl rfl ?_
  refine g_callIV C [0, 1, 2, 3, 4, 5, 6, 7, 8, 9, 10] [] [0, 1, 2, 3, 4, 5, 6, 7, 8, 9, 10] 0 4 (b := m 0) rfl rfl (As := []) (rest := []) (wr := ([] : va_W)) (wf := fun _ => (wM cy cz m M)) dX4_buckets_1 gX4_buckets_X4_base rfl dmX4_base ⟨rfl, rfl, Nat.le_of_ble_eq_true rfl, Nat.le_of_ble_eq_true rfl, Nat.zero_le _, Nat.zero_le _⟩ (c_X4_base l D cy cz m M) ⟨rfl, rfl, rfl, rfl, by decide, rfl, fun _ => rfl⟩ (Nat.le_of_ble_eq_true rfl) ?_
  rintro _ - rfl
  show G x l (rmF 1 36) D 1 0 0 (wM cy cz m M) [(0, .ref (m 0))] [.int (4 <<< (M 0 0 &&& 31))] 4
  refine g_aload_n C dX4_buckets_4 0 rfl rfl ?_
  refine g_get C 0 (f := 6) (v := .int (M 0 1)) (Cn := RX4) (T := TX4) (N := 20) dX4_buckets_5 rfl rfl iX4_buckets_X4 (by decide) mX4_buckets_f49 rfl ?_
  refine g_iadd C dX4_buckets_8 ?_
  exact ret _ () _ _ dX4_buckets_9 rfl

set_option maxHeartbeats 1600000 in
set_option maxRecDepth 20000 in
theorem c_X4_isPage (l : Launch) (D : va_G) (cy cz : ClassId) (p : Int32) : MId l yX4_isPage wsX4_isPage (rmF 0 0) D (tyL cy cz) [.int p] ([] : va_W) (inI 128 p) ([] : va_W) := by
  refine g_entZ (cc := cX4_isPage) (maxL := 1) (own := RX4) (by decide) rfl rfl (Nat.le_of_ble_eq_true rfl) (fun x C ret => ?_)
  show G x l (rmF 0 0) D 1 0 0 ([] : va_W) [(0, .int p)] [] 0
  refine g_iload_n C dX4_isPage_0 0 rfl rfl ?_
  refine g_if_lt C (tgt := 15) dX4_isPage_1 (by decide) (fun c1 => ?_) (fun c1 => ?_)
  · skip
    refine g_iconst C (v := 0) dX4_isPage_15 (by decide) ?_
    exact ret _ () _ _ dX4_isPage_16 (by decide) (by simp [inI, c1])
  · skip
    refine g_iload_n C dX4_isPage_4 0 rfl rfl ?_
    refine g_sipush C (v := 128) dX4_isPage_5 (by decide) ?_
    refine g_icmp_ge C (tgt := 15) dX4_isPage_8 (by decide) (fun c2 => ?_) (fun c2 => ?_)
    · skip
      refine g_iconst C (v := 0) dX4_isPage_15 (by decide) ?_
      exact ret _ () _ _ dX4_isPage_16 (by decide) (by simp [inI, c1, c2])
    · skip
      refine g_iconst C (v := 1) dX4_isPage_11 (by decide) ?_
      refine g_goto C (tgt := 16) dX4_isPage_12 (by decide) ?_
      exact ret _ () _ _ dX4_isPage_16 (by decide) (by simp [inI, c1, c2])

theorem mX4_addressOf_k59 : Cond.constant RX4 59 (-1640531527) ∈ wsX4_addressOf := List.mem_of_getElem? (i := 1) rfl
theorem mX4_addressOf_f49 : Cond.fieldLink RX4 49 (TX4 6).1 (TX4 6).2.1 (TX4 6).2.2.1 ∈ wsX4_addressOf := List.mem_of_getElem? (i := 2) rfl
theorem iX4_addressOf_X4 : ∀ w ∈ wsX40, w ∈ wsX4_addressOf := by decide +kernel
set_option maxHeartbeats 1600000 in
set_option maxRecDepth 20000 in
theorem c_X4_addressOf (l : Launch) (D : va_G) (cy cz : ClassId) (m : Nat → Nat) (M : Mem) (L : Nat) (S : Nat) (key : Int32) (hL : M 0 0 = nI L) (hS : M 0 1 = nI S) (h4 : L ≤ 4) (h5 : S ≤ 64) : MId l yX4_addressOf wsX4_addressOf (rmF 1 36) D (tyL cy cz) [.ref (m 0), .int key] (wM cy cz m M) (nI (adr L S key)) (wM cy cz m M) := by
  refine g_entI (cc := cX4_addressOf) (maxL := 4) (own := RX4) (by decide) rfl rfl (Nat.le_of_ble_eq_true rfl) (fun x C ret => ?_)
  show G x l (rmF 1 36) D 4 0 0 (wM cy cz m M) [(0, .ref (m 0)), (1, .int key)] [] 0
  refine g_iload_n C dX4_addressOf_0 1 rfl rfl ?_
  refine g_ldc C (v := (-1640531527)) mX4_addressOf_k59 dX4_addressOf_1 ?_
  refine g_imul C dX4_addressOf_3 ?_
  refine g_istore_n C (lv' := [(2, .int (key * (-1640531527))), (0, .ref (m 0)), (1, .int key)]) dX4_addressOf_4 rfl (by decide) rfl ?_
  refine g_iload_n C dX4_addressOf_5 0 rfl rfl ?_
  refine g_iload_n C dX4_addressOf_6 0 rfl rfl ?_
  refine g_bipush C (v := 15) dX4_addressOf_7 (by decide) ?_
  refine g_iushr C dX4_addressOf_9 ?_
  refine g_ixor C dX4_addressOf_10 ?_
  refine g_top (b := hsh key) (rfl) ?_
  refine g_istore_n C (lv' := [(2, .int (hsh key)), (0, .ref (m 0)), (1, .int key)]) dX4_addressOf_11 rfl (by decide) rfl ?_
  refine g_iload_n C dX4_addressOf_12 0 rfl rfl ?_
  refine g_aload_n C dX4_addressOf_13 1 rfl rfl ?_
  refine g_callIV C [0, 1, 2, 3, 4, 5, 6, 7, 8, 9, 10] [] [0, 1, 2, 3, 4, 5, 6, 7, 8, 9, 10] 0 4 (b := m 0) rfl rfl (As := []) (rest := [.int (hsh key)]) (wr := ([] : va_W)) (wf := fun _ => (wM cy cz m M)) dX4_addressOf_14 gX4_addressOf_X4_base rfl dmX4_base ⟨rfl, rfl, Nat.le_of_ble_eq_true rfl, Nat.le_of_ble_eq_true rfl, Nat.zero_le _, Nat.zero_le _⟩ (c_X4_base l D cy cz m M) ⟨rfl, rfl, rfl, rfl, by decide, rfl, fun _ => rfl⟩ (Nat.le_of_ble_eq_true rfl) ?_
  rintro _ - rfl
  show G x l (rmF 1 36) D 4 0 0 (wM cy cz m M) [(2, .int (hsh key)), (0, .ref (m 0)), (1, .int key)] [.int (4 <<< (M 0 0 &&& 31)), .int (hsh key)] 17
  refine g_top (b := 4 <<< (nI L &&& 31)) (by rw [hL]) ?_
  refine g_iconst C (v := 1) dX4_addressOf_17 (by decide) ?_
  refine g_isub C dX4_addressOf_18 ?_
  refine g_iand C dX4_addressOf_19 ?_
  refine g_top (b := nI (hN key % 2 ^ (L + 2))) (adr_lo key h4) ?_
  refine g_istore_n C (lv' := [(3, .int (nI (hN key % 2 ^ (L + 2)))), (2, .int (hsh key)), (0, .ref (m 0)), (1, .int key)]) dX4_addressOf_20 rfl (by decide) rfl ?_
  refine g_iload_n C dX4_addressOf_21 0 rfl rfl ?_
  refine g_aload_n C dX4_addressOf_22 2 rfl rfl ?_
  refine g_get C 0 (f := 6) (v := .int (M 0 1)) (Cn := RX4) (T := TX4) (N := 20) dX4_addressOf_23 rfl rfl iX4_addressOf_X4 (by decide) mX4_addressOf_f49 rfl ?_
  refine g_top (b := nI S) (hS) ?_
  refine g_icmp_ge C (tgt := 42) dX4_addressOf_26 (by decide) (fun c1 => ?_) (fun c1 => ?_)
  · skip
    refine g_iload_n C dX4_addressOf_42 0 rfl rfl ?_
    exact ret _ () _ _ dX4_addressOf_43 (adr_t h4 h5 c1)
  · skip
    refine g_iload_n C dX4_addressOf_29 1 rfl rfl ?_
    refine g_iconst C (v := 2) dX4_addressOf_30 (by decide) ?_
    refine g_aload_n C dX4_addressOf_31 2 rfl rfl ?_
    refine g_callIV C [0, 1, 2, 3, 4, 5, 6, 7, 8, 9, 10] [] [0, 1, 2, 3, 4, 5, 6, 7, 8, 9, 10] 0 4 (b := m 0) rfl rfl (As := []) (rest := [.int 2, .int (hsh key)]) (wr := ([] : va_W)) (wf := fun _ => (wM cy cz m M)) dX4_addressOf_32 gX4_addressOf_X4_base rfl dmX4_base ⟨rfl, rfl, Nat.le_of_ble_eq_true rfl, Nat.le_of_ble_eq_true rfl, Nat.zero_le _, Nat.zero_le _⟩ (c_X4_base l D cy cz m M) ⟨rfl, rfl, rfl, rfl, by decide, rfl, fun _ => rfl⟩ (Nat.le_of_ble_eq_true rfl) ?_
    rintro _ - rfl
    show G x l (rmF 1 36) D 4 0 0 (wM cy cz m M) [(3, .int (nI (hN key % 2 ^ (L + 2)))), (2, .int (hsh key)), (0, .ref (m 0)), (1, .int key)] [.int (4 <<< (M 0 0 &&& 31)), .int 2, .int (hsh key)] 35
    refine g_top (b := 4 <<< (nI L &&& 31)) (by rw [hL]) ?_
    refine g_imul C dX4_addressOf_35 ?_
    refine g_iconst C (v := 1) dX4_addressOf_36 (by decide) ?_
    refine g_isub C dX4_addressOf_37 ?_
    refine g_iand C dX4_addressOf_38 ?_
    refine g_top (b := nI (hN key % 2 ^ (L + 3))) (adr_hi3 key h4) ?_
    refine g_goto C (tgt := 43) dX4_addressOf_39 (by decide) ?_
    exact ret _ () _ _ dX4_addressOf_43 (adr_f h4 h5 c1)

theorem mX4_lastOf_f19 : Cond.fieldLink RX4 19 (TX4 3).1 (TX4 3).2.1 (TX4 3).2.2.1 ∈ wsX4_lastOf := List.mem_of_getElem? (i := 1) rfl
theorem iX4_lastOf_X4 : ∀ w ∈ wsX40, w ∈ wsX4_lastOf := by decide +kernel
theorem mX4_lastOf_k44 : Cond.constant RX4 44 (-2000000005) ∈ wsX4_lastOf := List.mem_of_getElem? (i := 2) rfl
set_option maxHeartbeats 1600000 in
set_option maxRecDepth 20000 in
theorem c_X4_lastOf (l : Launch) (D : va_G) (cy cz : ClassId) (m : Nat → Nat) (M : Mem) (b : Nat) (t : List Nat) (h1 : isCh (M 4) (b :: t)) : MId l yX4_lastOf wsX4_lastOf (rmF 0 0) D (tyL cy cz) [.ref (m 0), .int (nI b)] (wM cy cz m M) (nI (lst b t)) (wM cy cz m M) := by
  refine g_entI (cc := cX4_lastOf) (maxL := 3) (own := RX4) (by decide) rfl rfl (Nat.le_of_ble_eq_true rfl) (fun x C ret => ?_)
  show G x l (rmF 0 0) D 3 0 0 (wM cy cz m M) [(0, .ref (m 0)), (1, .int (nI b))] [] 0
  refine g_iload_n C dX4_lastOf_0 1 rfl rfl ?_
  refine g_istore_n C (lv' := [(2, .int (nI b)), (0, .ref (m 0)), (1, .int (nI b))]) dX4_lastOf_1 rfl (by decide) rfl ?_
  refine g_loop (σ := Nat × List Nat) (fun (a : Nat × List Nat) => match a with | (q, r) => (wM cy cz m M)) (fun (a : Nat × List Nat) => match a with | (q, r) => [(2, .int (nI q)), (0, .ref (m 0)), (1, .int (nI b))]) (fun (a : Nat × List Nat) => match a with | (q, r) => (isCh (M 4) (q :: r)) ∧ (lst b t = lst q r)) (fun (a : Nat × List Nat) => match a with | (q, r) => r.length) ?_ (b, t) (⟨h1, rfl⟩)
  intro a hI ih
  obtain ⟨q, r⟩ := a
  obtain ⟨i1, i2⟩ : (isCh (M 4) (q :: r)) ∧ (lst b t = lst q r) := hI
  show G x l (rmF 0 0) D 3 0 0 (wM cy cz m M) [(2, .int (nI q)), (0, .ref (m 0)), (1, .int (nI b))] [] 2
  obtain ⟨hq, hn, i1⟩ := i1
  rcases r with _ | ⟨q2, r⟩
  · skip
    show G x l (rmF 0 0) D 3 0 0 (wM cy cz m M) [(2, .int (nI q)), (0, .ref (m 0)), (1, .int (nI b))] [] 2
    refine g_aload_n C dX4_lastOf_2 1 rfl rfl ?_
    refine g_get C 0 (f := 3) (v := .ref (m 4)) (Cn := RX4) (T := TX4) (N := 20) dX4_lastOf_3 rfl rfl iX4_lastOf_X4 (by decide) mX4_lastOf_f19 rfl ?_
    refine g_iload_n C dX4_lastOf_6 0 rfl rfl ?_
    refine g_iald C 4 0 (f := M 4) (N := 128) q dX4_lastOf_7 rfl rfl (by decide) (rfl) (hq) ?_
    refine g_top (b := vNONE) (hn) ?_
    refine g_ldc C (v := vNONE) mX4_lastOf_k44 dX4_lastOf_8 ?_
    refine g_icmp_eq C (tgt := 23) dX4_lastOf_10 (by decide) (fun c1 => ?_) (fun c1 => ?_)
    · skip
      refine g_iload_n C dX4_lastOf_23 0 rfl rfl ?_
      exact ret _ () _ _ dX4_lastOf_24 (by rw [i2]; rfl)
    · skip
      exact absurd rfl (c1)
  · skip
    show G x l (rmF 0 0) D 3 0 0 (wM cy cz m M) [(2, .int (nI q)), (0, .ref (m 0)), (1, .int (nI b))] [] 2
    refine g_aload_n C dX4_lastOf_2 1 rfl rfl ?_
    refine g_get C 0 (f := 3) (v := .ref (m 4)) (Cn := RX4) (T := TX4) (N := 20) dX4_lastOf_3 rfl rfl iX4_lastOf_X4 (by decide) mX4_lastOf_f19 rfl ?_
    refine g_iload_n C dX4_lastOf_6 0 rfl rfl ?_
    refine g_iald C 4 0 (f := M 4) (N := 128) q dX4_lastOf_7 rfl rfl (by decide) (rfl) (hq) ?_
    refine g_top (b := nI q2) (hn) ?_
    refine g_ldc C (v := vNONE) mX4_lastOf_k44 dX4_lastOf_8 ?_
    refine g_icmp_eq C (tgt := 23) dX4_lastOf_10 (by decide) (fun c1 => ?_) (fun c1 => ?_)
    · skip
      exact absurd c1 (NONE_nI (by have := i1.1; omega))
    · skip
      refine g_aload_n C dX4_lastOf_13 1 rfl rfl ?_
      refine g_get C 0 (f := 3) (v := .ref (m 4)) (Cn := RX4) (T := TX4) (N := 20) dX4_lastOf_14 rfl rfl iX4_lastOf_X4 (by decide) mX4_lastOf_f19 rfl ?_
      refine g_iload_n C dX4_lastOf_17 0 rfl rfl ?_
      refine g_iald C 4 0 (f := M 4) (N := 128) q dX4_lastOf_18 rfl rfl (by decide) (rfl) (hq) ?_
      refine g_top (b := nI q2) (hn) ?_
      refine g_istore_n C (lv' := [(2, .int (nI q2)), (0, .ref (m 0)), (1, .int (nI b))]) dX4_lastOf_19 rfl (by decide) rfl ?_
      refine g_goto C (tgt := 2) dX4_lastOf_20 (by decide) ?_
      exact ih (q2, r) ⟨i1, i2⟩ (Nat.lt_succ_self _)

theorem mX4_freeOnes_f22 : Cond.fieldLink RX4 22 (TX4 4).1 (TX4 4).2.1 (TX4 4).2.2.1 ∈ wsX4_freeOnes := List.mem_of_getElem? (i := 1) rfl
theorem iX4_freeOnes_X4 : ∀ w ∈ wsX40, w ∈ wsX4_freeOnes := by decide +kernel
set_option maxHeartbeats 1600000 in
set_option maxRecDepth 20000 in
theorem c_X4_freeOnes (l : Launch) (D : va_G) (cy cz : ClassId) (m : Nat → Nat) (M : Mem) (A : AS) (hr : RD A M) : MId l yX4_freeOnes wsX4_freeOnes (rmF 0 0) D (tyL cy cz) [.ref (m 0)] (wM cy cz m M) (nI A.fc) (wM cy cz m M) := by
  refine g_entI (cc := cX4_freeOnes) (maxL := 3) (own := RX4) (by decide) rfl rfl (Nat.le_of_ble_eq_true rfl) (fun x C ret => ?_)
  show G x l (rmF 0 0) D 3 0 0 (wM cy cz m M) [(0, .ref (m 0))] [] 0
  refine g_iconst C (v := 0) dX4_freeOnes_0 (by decide) ?_
  refine g_istore_n C (lv' := [(1, .int 0), (0, .ref (m 0))]) dX4_freeOnes_1 rfl (by decide) rfl ?_
  refine g_bipush C (v := 64) dX4_freeOnes_2 (by decide) ?_
  refine g_istore_n C (lv' := [(2, .int 64), (1, .int 0), (0, .ref (m 0))]) dX4_freeOnes_4 rfl (by decide) rfl ?_
  refine g_lv (lv' := [(1, .int 0), (2, .int 64), (0, .ref (m 0))]) [1, 0, 2] rfl ?_
  refine g_loop (σ := Nat × Nat) (fun (a : Nat × Nat) => match a with | (p, n) => (wM cy cz m M)) (fun (a : Nat × Nat) => match a with | (p, n) => [(1, .int (nI n)), (2, .int (nI p)), (0, .ref (m 0))]) (fun (a : Nat × Nat) => match a with | (p, n) => (64 ≤ p) ∧ (p ≤ 128) ∧ (A.fc = n + frcF A.fr (128 - p) p)) (fun (a : Nat × Nat) => match a with | (p, n) => 128 - p) ?_ (64, 0) (⟨by decide, by decide, (Nat.zero_add _).symm⟩)
  intro a hI ih
  obtain ⟨p, n⟩ := a
  obtain ⟨i1, i2, i3⟩ : (64 ≤ p) ∧ (p ≤ 128) ∧ (A.fc = n + frcF A.fr (128 - p) p) := hI
  show G x l (rmF 0 0) D 3 0 0 (wM cy cz m M) [(1, .int (nI n)), (2, .int (nI p)), (0, .ref (m 0))] [] 5
  refine g_iload_n C dX4_freeOnes_5 1 rfl rfl ?_
  refine g_sipush C (v := 128) dX4_freeOnes_6 (by decide) ?_
  refine g_icmp_ge C (tgt := 35) dX4_freeOnes_9 (by decide) (fun c1 => ?_) (fun c1 => ?_)
  · skip
    refine g_iload_n C dX4_freeOnes_35 0 rfl rfl ?_
    exact ret _ () _ _ dX4_freeOnes_36 (by rw [i3, show p = 128 by have := (nI_leI (a := 128) (b := p) (by decide) (by omega)).mp c1; omega]; rfl)
  · skip
    have h1 : p < 128 := Nat.lt_of_not_le (fun w => c1 (nI_le w (by omega)))
    refine g_iload_n C dX4_freeOnes_12 0 rfl rfl ?_
    refine g_aload_n C dX4_freeOnes_13 2 rfl rfl ?_
    refine g_get C 0 (f := 4) (v := .ref (m 5)) (Cn := RX4) (T := TX4) (N := 20) dX4_freeOnes_14 rfl rfl iX4_freeOnes_X4 (by decide) mX4_freeOnes_f22 rfl ?_
    refine g_iload_n C dX4_freeOnes_17 1 rfl rfl ?_
    refine g_zald C 5 1 (f := M 5) (N := 128) p dX4_freeOnes_18 rfl rfl (by decide) (rfl) (h1) ?_
    refine g_top (b := if A.fr p = true then 1 else 0) (hr.free i1 h1) ?_
    refine g_if_eq C (tgt := 26) dX4_freeOnes_19 (by decide) (fun c2 => ?_) (fun c2 => ?_)
    · skip
      have h2 : ¬ A.fr p = true := fun w => by rw [if_pos w] at c2; exact absurd c2 (by decide)
      refine g_iconst C (v := 0) dX4_freeOnes_26 (by decide) ?_
      refine g_iadd C dX4_freeOnes_27 ?_
      refine g_top (b := nI n) (Int32.add_zero _) ?_
      refine g_istore_n C (lv' := [(1, .int (nI n)), (2, .int (nI p)), (0, .ref (m 0))]) dX4_freeOnes_28 rfl (by decide) rfl ?_
      refine g_iinc C (q := 1) (v := nI (p + 1)) (lv' := [(2, .int (nI (p + 1))), (1, .int (nI n)), (0, .ref (m 0))]) dX4_freeOnes_29 rfl (nI_1 p) (by decide) rfl ?_
      refine g_goto C (tgt := 5) dX4_freeOnes_32 (by decide) ?_
      refine g_lv (lv' := [(1, .int (nI n)), (2, .int (nI (p + 1))), (0, .ref (m 0))]) [1, 0, 2] rfl ?_
      exact ih (p + 1, n) ⟨by omega, by omega, by rw [i3, frcF_step h1, if_neg h2, Nat.zero_add]⟩ (by show 128 - (p + 1) < 128 - p; omega)
    · skip
      have h2 : A.fr p = true := Decidable.byContradiction (fun w => c2 (if_neg w))
      refine g_iconst C (v := 1) dX4_freeOnes_22 (by decide) ?_
      refine g_goto C (tgt := 27) dX4_freeOnes_23 (by decide) ?_
      refine g_iadd C dX4_freeOnes_27 ?_
      refine g_top (b := nI (n + 1)) (nI_1 n) ?_
      refine g_istore_n C (lv' := [(1, .int (nI (n + 1))), (2, .int (nI p)), (0, .ref (m 0))]) dX4_freeOnes_28 rfl (by decide) rfl ?_
      refine g_iinc C (q := 1) (v := nI (p + 1)) (lv' := [(2, .int (nI (p + 1))), (1, .int (nI (n + 1))), (0, .ref (m 0))]) dX4_freeOnes_29 rfl (nI_1 p) (by decide) rfl ?_
      refine g_goto C (tgt := 5) dX4_freeOnes_32 (by decide) ?_
      refine g_lv (lv' := [(1, .int (nI (n + 1))), (2, .int (nI (p + 1))), (0, .ref (m 0))]) [1, 0, 2] rfl ?_
      exact ih (p + 1, n + 1) ⟨by omega, by omega, by rw [i3, frcF_step h1, if_pos h2]; omega⟩ (by show 128 - (p + 1) < 128 - p; omega)

theorem mX4_add_f16 : Cond.fieldLink RX4 16 (TX4 2).1 (TX4 2).2.1 (TX4 2).2.2.1 ∈ wsX4_add := List.mem_of_getElem? (i := 1) rfl
theorem iX4_add_X4 : ∀ w ∈ wsX40, w ∈ wsX4_add := by decide +kernel
theorem mX4_add_f7 : Cond.fieldLink RX4 7 (TX4 0).1 (TX4 0).2.1 (TX4 0).2.2.1 ∈ wsX4_add := List.mem_of_getElem? (i := 4) rfl
theorem mX4_add_f13 : Cond.fieldLink RX4 13 (TX4 1).1 (TX4 1).2.1 (TX4 1).2.2.1 ∈ wsX4_add := List.mem_of_getElem? (i := 5) rfl
theorem mX4_add_f22 : Cond.fieldLink RX4 22 (TX4 4).1 (TX4 4).2.1 (TX4 4).2.2.1 ∈ wsX4_add := List.mem_of_getElem? (i := 2) rfl
theorem mX4_add_f19 : Cond.fieldLink RX4 19 (TX4 3).1 (TX4 3).2.1 (TX4 3).2.2.1 ∈ wsX4_add := List.mem_of_getElem? (i := 3) rfl
set_option maxHeartbeats 1600000 in
set_option maxRecDepth 20000 in
theorem c_X4_add (l : Launch) (D : va_G) (cy cz : ClassId) (m : Nat → Nat) (M : Mem) (A : AS) (b : Nat) (k : Int32) (v : Int32) (hr : RD A M) (hb : b < 64) (hroom : A.rm b) : MV l yX4_add wsX4_add (rmF 1 36) D (tyL cy cz) [.ref (m 0), .int (nI b), .int k, .int v] (wM cy cz m M) (fun (M1 : Mem) => RD (A.add b k v) M1 ∧ KA M M1) (fun M1 => (wM cy cz m M1)) := by
  refine g_entV (cc := cX4_add) (maxL := 6) (own := RX4) (by decide) rfl rfl (Nat.le_of_ble_eq_true rfl) (fun x C ret => ?_)
  show G x l (rmF 1 36) D 6 0 0 (wM cy cz m M) [(0, .ref (m 0)), (1, .int (nI b)), (2, .int k), (3, .int v)] [] 0
  have hq := hr.la hb
  have hz := hr.sz4 hq
  refine g_aload_n C dX4_add_0 0 rfl rfl ?_
  refine g_iload_n C dX4_add_1 1 rfl rfl ?_
  refine g_callIV C [0, 1, 2, 3, 4, 5, 6, 7, 8, 9, 10] [] [0, 1, 2, 3, 4, 5, 6, 7, 8, 9, 10] 0 4 (b := m 0) rfl rfl (As := [.int (nI b)]) (rest := []) (wr := ([] : va_W)) (wf := fun _ => (wM cy cz m M)) dX4_add_2 gX4_add_X4_lastOf rfl dmX4_lastOf ⟨rfl, rfl, Nat.le_of_ble_eq_true rfl, Nat.le_of_ble_eq_true rfl, Nat.zero_le _, Nat.zero_le _⟩ (c_X4_lastOf l D cy cz m M b (A.tl b) (hr.chain hb)) ⟨rfl, rfl, rfl, rfl, by decide, rfl, fun _ => rfl⟩ (Nat.le_of_ble_eq_true rfl) ?_
  rintro _ - rfl
  show G x l (rmF 1 36) D 6 0 0 (wM cy cz m M) [(0, .ref (m 0)), (1, .int (nI b)), (2, .int k), (3, .int v)] [.int (nI (lst b (A.tl b)))] 5
  refine g_top (b := nI (A.la b)) (rfl) ?_
  refine g_istore C (lv' := [(4, .int (nI (A.la b))), (0, .ref (m 0)), (1, .int (nI b)), (2, .int k), (3, .int v)]) dX4_add_5 (by decide) rfl ?_
  refine g_aload_n C dX4_add_7 1 rfl rfl ?_
  refine g_get C 0 (f := 2) (v := .ref (m 3)) (Cn := RX4) (T := TX4) (N := 20) dX4_add_8 rfl rfl iX4_add_X4 (by decide) mX4_add_f16 rfl ?_
  refine g_iload C dX4_add_11 0 rfl ?_
  refine g_iald C 3 0 (f := M 3) (N := 128) (A.la b) dX4_add_13 rfl rfl (by decide) (rfl) (hq) ?_
  refine g_top (b := nI (A.sz (A.la b))) (hr.used hq) ?_
  refine g_iconst C (v := 4) dX4_add_14 (by decide) ?_
  refine g_icmp_ne C (tgt := 59) dX4_add_15 (by decide) (fun c1 => ?_) (fun c1 => ?_)
  · skip
    have h9 : ¬ A.sz (A.la b) = 4 := fun w => c1 (by rw [w]; rfl)
    have hs : A.sz (A.la b) < 4 := by omega
    refine g_aload_n C dX4_add_59 1 rfl rfl ?_
    refine g_get C 0 (f := 0) (v := .ref (m 1)) (Cn := RX4) (T := TX4) (N := 20) dX4_add_60 rfl rfl iX4_add_X4 (by decide) mX4_add_f7 rfl ?_
    refine g_iconst C (v := 4) dX4_add_63 (by decide) ?_
    refine g_iload C dX4_add_64 0 rfl ?_
    refine g_imul C dX4_add_66 ?_
    refine g_top (b := nI (A.la b * 4)) (mul4 _) ?_
    refine g_aload_n C dX4_add_67 1 rfl rfl ?_
    refine g_get C 0 (f := 2) (v := .ref (m 3)) (Cn := RX4) (T := TX4) (N := 20) dX4_add_68 rfl rfl iX4_add_X4 (by decide) mX4_add_f16 rfl ?_
    refine g_iload C dX4_add_71 0 rfl ?_
    refine g_iald C 3 0 (f := M 3) (N := 128) (A.la b) dX4_add_73 rfl rfl (by decide) (rfl) (hq) ?_
    refine g_top (b := nI (A.sz (A.la b))) (hr.used hq) ?_
    refine g_iadd C dX4_add_74 ?_
    refine g_top (b := nI (A.la b * 4 + A.sz (A.la b))) (nI_add _ _) ?_
    refine g_iload_n C dX4_add_75 3 rfl rfl ?_
    refine g_iast C 1 0 (f := M 1) (N := 512) (ws' := (wM cy cz m (ps M 1 (A.la b * 4 + A.sz (A.la b)) k))) (A.la b * 4 + A.sz (A.la b)) dX4_add_76 rfl rfl (by decide) (rfl) (by omega) (wM_a1 cy cz m M (A.la b * 4 + A.sz (A.la b)) k) ?_
    refine g_aload_n C dX4_add_77 1 rfl rfl ?_
    refine g_get C 0 (f := 1) (v := .ref (m 2)) (Cn := RX4) (T := TX4) (N := 20) dX4_add_78 rfl rfl iX4_add_X4 (by decide) mX4_add_f13 rfl ?_
    refine g_iconst C (v := 4) dX4_add_81 (by decide) ?_
    refine g_iload C dX4_add_82 0 rfl ?_
    refine g_imul C dX4_add_84 ?_
    refine g_top (b := nI (A.la b * 4)) (mul4 _) ?_
    refine g_aload_n C dX4_add_85 1 rfl rfl ?_
    refine g_get C 0 (f := 2) (v := .ref (m 3)) (Cn := RX4) (T := TX4) (N := 20) dX4_add_86 rfl rfl iX4_add_X4 (by decide) mX4_add_f16 rfl ?_
    refine g_iload C dX4_add_89 0 rfl ?_
    refine g_iald C 3 0 (f := M 3) (N := 128) (A.la b) dX4_add_91 rfl rfl (by decide) (rfl) (hq) ?_
    refine g_top (b := nI (A.sz (A.la b))) (hr.used hq) ?_
    refine g_iadd C dX4_add_92 ?_
    refine g_top (b := nI (A.la b * 4 + A.sz (A.la b))) (nI_add _ _) ?_
    refine g_iload_n C dX4_add_93 4 rfl rfl ?_
    refine g_iast C 2 0 (f := (ps M 1 (A.la b * 4 + A.sz (A.la b)) k) 2) (N := 512) (ws' := (wM cy cz m (ps (ps M 1 (A.la b * 4 + A.sz (A.la b)) k) 2 (A.la b * 4 + A.sz (A.la b)) v))) (A.la b * 4 + A.sz (A.la b)) dX4_add_94 rfl rfl (by decide) (rfl) (by omega) (wM_a2 cy cz m (ps M 1 (A.la b * 4 + A.sz (A.la b)) k) (A.la b * 4 + A.sz (A.la b)) v) ?_
    refine g_aload_n C dX4_add_95 1 rfl rfl ?_
    refine g_get C 0 (f := 2) (v := .ref (m 3)) (Cn := RX4) (T := TX4) (N := 20) dX4_add_96 rfl rfl iX4_add_X4 (by decide) mX4_add_f16 rfl ?_
    refine g_iload C dX4_add_99 0 rfl ?_
    refine g_dup2 C dX4_add_101 rfl rfl ?_
    refine g_iald C 3 0 (f := M 3) (N := 128) (A.la b) dX4_add_102 rfl rfl (by decide) (rfl) (hq) ?_
    refine g_top (b := nI (A.sz (A.la b))) (hr.used hq) ?_
    refine g_iconst C (v := 1) dX4_add_103 (by decide) ?_
    refine g_iadd C dX4_add_104 ?_
    refine g_top (b := nI (A.sz (A.la b) + 1)) (nI_1 _) ?_
    refine g_iast C 3 0 (f := (ps (ps M 1 (A.la b * 4 + A.sz (A.la b)) k) 2 (A.la b * 4 + A.sz (A.la b)) v) 3) (N := 128) (ws' := (wM cy cz m (ps (ps (ps M 1 (A.la b * 4 + A.sz (A.la b)) k) 2 (A.la b * 4 + A.sz (A.la b)) v) 3 (A.la b) (nI (A.sz (A.la b) + 1))))) (A.la b) dX4_add_105 rfl rfl (by decide) (rfl) (hq) (wM_a3 cy cz m (ps (ps M 1 (A.la b * 4 + A.sz (A.la b)) k) 2 (A.la b * 4 + A.sz (A.la b)) v) (A.la b) (nI (A.sz (A.la b) + 1))) ?_
    exact ret (ps (ps (ps M 1 (A.la b * 4 + A.sz (A.la b)) k) 2 (A.la b * 4 + A.sz (A.la b)) v) 3 (A.la b) (nI (A.sz (A.la b) + 1))) _ _ dX4_add_106 (⟨RD_add1 hr hb hs k v, rfl, rfl, rfl, rfl, rfl, rfl⟩)
  · skip
    have h9 := (nI_eq (b := 4) (by omega) (by decide)).mp c1
    have hs : ¬ A.sz (A.la b) < 4 := by omega
    obtain ⟨r, hf⟩ := rm_some hroom hs
    obtain ⟨f1, f2, f3⟩ := WFc.lf hf
    refine g_bipush C (v := 64) dX4_add_18 (by decide) ?_
    refine g_istore C (lv' := [(5, .int 64), (4, .int (nI (A.la b))), (0, .ref (m 0)), (1, .int (nI b)), (2, .int k), (3, .int v)]) dX4_add_20 (by decide) rfl ?_
    refine g_loop (σ := Nat) (fun (a : Nat) => match a with | p => (wM cy cz m M)) (fun (a : Nat) => match a with | p => [(5, .int (nI p)), (4, .int (nI (A.la b))), (0, .ref (m 0)), (1, .int (nI b)), (2, .int k), (3, .int v)]) (fun (a : Nat) => match a with | p => (64 ≤ p) ∧ (A.lf = lfrF A.fr (128 - p) p)) (fun (a : Nat) => match a with | p => 128 - p) ?_ 64 (⟨by decide, rfl⟩)
    intro a hI ih
    obtain ⟨p, rfl⟩ : ∃ z, z = a := ⟨_, rfl⟩
    obtain ⟨i1, i3⟩ : (64 ≤ p) ∧ (A.lf = lfrF A.fr (128 - p) p) := hI
    show G x l (rmF 1 36) D 6 0 0 (wM cy cz m M) [(5, .int (nI p)), (4, .int (nI (A.la b))), (0, .ref (m 0)), (1, .int (nI b)), (2, .int k), (3, .int v)] [] 22
    have h1 : p < 128 := lf_lt (i3.symm.trans hf)
    refine g_aload_n C dX4_add_22 2 rfl rfl ?_
    refine g_get C 0 (f := 4) (v := .ref (m 5)) (Cn := RX4) (T := TX4) (N := 20) dX4_add_23 rfl rfl iX4_add_X4 (by decide) mX4_add_f22 rfl ?_
    refine g_iload C dX4_add_26 0 rfl ?_
    refine g_zald C 5 1 (f := M 5) (N := 128) p dX4_add_28 rfl rfl (by decide) (rfl) (h1) ?_
    refine g_top (b := if A.fr p = true then 1 else 0) (hr.free i1 h1) ?_
    refine g_if_ne C (tgt := 38) dX4_add_29 (by decide) (fun c2 => ?_) (fun c2 => ?_)
    · skip
      have h2 : A.fr p = true := Decidable.byContradiction (fun w => c2 (if_neg w))
      obtain rfl : p = r := Option.some.inj ((lfrF_hit h1 h2).symm.trans (i3.symm.trans hf))
      show G x l (rmF 1 36) D 6 0 0 (wM cy cz m M) [(5, .int (nI p)), (4, .int (nI (A.la b))), (0, .ref (m 0)), (1, .int (nI b)), (2, .int k), (3, .int v)] [] 38
      refine g_aload_n C dX4_add_38 2 rfl rfl ?_
      refine g_get C 0 (f := 4) (v := .ref (m 5)) (Cn := RX4) (T := TX4) (N := 20) dX4_add_39 rfl rfl iX4_add_X4 (by decide) mX4_add_f22 rfl ?_
      refine g_iload C dX4_add_42 0 rfl ?_
      refine g_iconst C (v := 0) dX4_add_44 (by decide) ?_
      refine g_zast C 5 1 (f := M 5) (N := 128) (ws' := (wM cy cz m (ps M 5 p 0))) p dX4_add_45 rfl rfl (by decide) (rfl) (f2) (by decide) (wM_a5 cy cz m M p 0) ?_
      refine g_aload_n C dX4_add_46 2 rfl rfl ?_
      refine g_get C 0 (f := 3) (v := .ref (m 4)) (Cn := RX4) (T := TX4) (N := 20) dX4_add_47 rfl rfl iX4_add_X4 (by decide) mX4_add_f19 rfl ?_
      refine g_iload C dX4_add_50 1 rfl ?_
      refine g_iload C dX4_add_52 0 rfl ?_
      refine g_iast C 4 0 (f := (ps M 5 p 0) 4) (N := 128) (ws' := (wM cy cz m (ps (ps M 5 p 0) 4 (A.la b) (nI p)))) (A.la b) dX4_add_54 rfl rfl (by decide) (rfl) (hq) (wM_a4 cy cz m (ps M 5 p 0) (A.la b) (nI p)) ?_
      refine g_iload C dX4_add_55 0 rfl ?_
      refine g_istore C (lv' := [(4, .int (nI p)), (5, .int (nI p)), (0, .ref (m 0)), (1, .int (nI b)), (2, .int k), (3, .int v)]) dX4_add_57 (by decide) rfl ?_
      refine g_aload_n C dX4_add_59 2 rfl rfl ?_
      refine g_get C 0 (f := 0) (v := .ref (m 1)) (Cn := RX4) (T := TX4) (N := 20) dX4_add_60 rfl rfl iX4_add_X4 (by decide) mX4_add_f7 rfl ?_
      refine g_iconst C (v := 4) dX4_add_63 (by decide) ?_
      refine g_iload C dX4_add_64 0 rfl ?_
      refine g_imul C dX4_add_66 ?_
      refine g_top (b := nI (p * 4)) (mul4 _) ?_
      refine g_aload_n C dX4_add_67 2 rfl rfl ?_
      refine g_get C 0 (f := 2) (v := .ref (m 3)) (Cn := RX4) (T := TX4) (N := 20) dX4_add_68 rfl rfl iX4_add_X4 (by decide) mX4_add_f16 rfl ?_
      refine g_iload C dX4_add_71 0 rfl ?_
      refine g_iald C 3 0 (f := M 3) (N := 128) p dX4_add_73 rfl rfl (by decide) (rfl) (f2) ?_
      refine g_top (b := 0) ((hr.used f2).trans (by rw [hr.1.2.2.2.2.2.1 p f1 f2 f3]; rfl)) ?_
      refine g_iadd C dX4_add_74 ?_
      refine g_top (b := nI (p * 4)) (Int32.add_zero _) ?_
      refine g_iload_n C dX4_add_75 4 rfl rfl ?_
      refine g_iast C 1 0 (f := (ps (ps M 5 p 0) 4 (A.la b) (nI p)) 1) (N := 512) (ws' := (wM cy cz m (ps (ps (ps M 5 p 0) 4 (A.la b) (nI p)) 1 (p * 4) k))) (p * 4) dX4_add_76 rfl rfl (by decide) (rfl) (by omega) (wM_a1 cy cz m (ps (ps M 5 p 0) 4 (A.la b) (nI p)) (p * 4) k) ?_
      refine g_aload_n C dX4_add_77 2 rfl rfl ?_
      refine g_get C 0 (f := 1) (v := .ref (m 2)) (Cn := RX4) (T := TX4) (N := 20) dX4_add_78 rfl rfl iX4_add_X4 (by decide) mX4_add_f13 rfl ?_
      refine g_iconst C (v := 4) dX4_add_81 (by decide) ?_
      refine g_iload C dX4_add_82 0 rfl ?_
      refine g_imul C dX4_add_84 ?_
      refine g_top (b := nI (p * 4)) (mul4 _) ?_
      refine g_aload_n C dX4_add_85 2 rfl rfl ?_
      refine g_get C 0 (f := 2) (v := .ref (m 3)) (Cn := RX4) (T := TX4) (N := 20) dX4_add_86 rfl rfl iX4_add_X4 (by decide) mX4_add_f16 rfl ?_
      refine g_iload C dX4_add_89 0 rfl ?_
      refine g_iald C 3 0 (f := M 3) (N := 128) p dX4_add_91 rfl rfl (by decide) (rfl) (f2) ?_
      refine g_top (b := 0) ((hr.used f2).trans (by rw [hr.1.2.2.2.2.2.1 p f1 f2 f3]; rfl)) ?_
      refine g_iadd C dX4_add_92 ?_
      refine g_top (b := nI (p * 4)) (Int32.add_zero _) ?_
      refine g_iload_n C dX4_add_93 5 rfl rfl ?_
      refine g_iast C 2 0 (f := (ps (ps (ps M 5 p 0) 4 (A.la b) (nI p)) 1 (p * 4) k) 2) (N := 512) (ws' := (wM cy cz m (ps (ps (ps (ps M 5 p 0) 4 (A.la b) (nI p)) 1 (p * 4) k) 2 (p * 4) v))) (p * 4) dX4_add_94 rfl rfl (by decide) (rfl) (by omega) (wM_a2 cy cz m (ps (ps (ps M 5 p 0) 4 (A.la b) (nI p)) 1 (p * 4) k) (p * 4) v) ?_
      refine g_aload_n C dX4_add_95 2 rfl rfl ?_
      refine g_get C 0 (f := 2) (v := .ref (m 3)) (Cn := RX4) (T := TX4) (N := 20) dX4_add_96 rfl rfl iX4_add_X4 (by decide) mX4_add_f16 rfl ?_
      refine g_iload C dX4_add_99 0 rfl ?_
      refine g_dup2 C dX4_add_101 rfl rfl ?_
      refine g_iald C 3 0 (f := M 3) (N := 128) p dX4_add_102 rfl rfl (by decide) (rfl) (f2) ?_
      refine g_top (b := 0) ((hr.used f2).trans (by rw [hr.1.2.2.2.2.2.1 p f1 f2 f3]; rfl)) ?_
      refine g_iconst C (v := 1) dX4_add_103 (by decide) ?_
      refine g_iadd C dX4_add_104 ?_
      refine g_top (b := nI 1) (rfl) ?_
      refine g_iast C 3 0 (f := (ps (ps (ps (ps M 5 p 0) 4 (A.la b) (nI p)) 1 (p * 4) k) 2 (p * 4) v) 3) (N := 128) (ws' := (wM cy cz m (ps (ps (ps (ps (ps M 5 p 0) 4 (A.la b) (nI p)) 1 (p * 4) k) 2 (p * 4) v) 3 p (nI 1)))) p dX4_add_105 rfl rfl (by decide) (rfl) (f2) (wM_a3 cy cz m (ps (ps (ps (ps M 5 p 0) 4 (A.la b) (nI p)) 1 (p * 4) k) 2 (p * 4) v) p (nI 1)) ?_
      exact ret (ps (ps (ps (ps (ps M 5 p 0) 4 (A.la b) (nI p)) 1 (p * 4) k) 2 (p * 4) v) 3 p (nI 1)) _ _ dX4_add_106 (⟨RD_add2 hr hb hs hf k v, rfl, rfl, rfl, rfl, rfl, rfl⟩)
    · skip
      have h2 : ¬ A.fr p = true := fun w => by rw [if_pos w] at c2; exact absurd c2 (by decide)
      refine g_iinc C (q := 0) (v := nI (p + 1)) (lv' := [(5, .int (nI (p + 1))), (4, .int (nI (A.la b))), (0, .ref (m 0)), (1, .int (nI b)), (2, .int k), (3, .int v)]) dX4_add_32 rfl (nI_1 p) (by decide) rfl ?_
      refine g_goto C (tgt := 22) dX4_add_35 (by decide) ?_
      exact ih (p + 1) ⟨by omega, by rw [i3]; exact lfrF_miss h1 h2⟩ (by show 128 - (p + 1) < 128 - p; omega)

theorem mX4_placeOf_k44 : Cond.constant RX4 44 (-2000000005) ∈ wsX4_placeOf := List.mem_of_getElem? (i := 1) rfl
theorem mX4_placeOf_f16 : Cond.fieldLink RX4 16 (TX4 2).1 (TX4 2).2.1 (TX4 2).2.2.1 ∈ wsX4_placeOf := List.mem_of_getElem? (i := 2) rfl
theorem iX4_placeOf_X4 : ∀ w ∈ wsX40, w ∈ wsX4_placeOf := by decide +kernel
theorem mX4_placeOf_f19 : Cond.fieldLink RX4 19 (TX4 3).1 (TX4 3).2.1 (TX4 3).2.2.1 ∈ wsX4_placeOf := List.mem_of_getElem? (i := 4) rfl
theorem mX4_placeOf_f7 : Cond.fieldLink RX4 7 (TX4 0).1 (TX4 0).2.1 (TX4 0).2.2.1 ∈ wsX4_placeOf := List.mem_of_getElem? (i := 3) rfl
set_option maxHeartbeats 1600000 in
set_option maxRecDepth 20000 in
theorem c_X4_placeOf (l : Launch) (D : va_G) (cy cz : ClassId) (m : Nat → Nat) (M : Mem) (A : AS) (key : Int32) (hr : RM A M) : MId l yX4_placeOf wsX4_placeOf (rmF 2 72) D (tyL cy cz) [.ref (m 0), .int key] (wM cy cz m M) (ocI (A.fnd key)) (wM cy cz m M) := by
  refine g_entI (cc := cX4_placeOf) (maxL := 4) (own := RX4) (by decide) rfl rfl (Nat.le_of_ble_eq_true rfl) (fun x C ret => ?_)
  show G x l (rmF 2 72) D 4 0 0 (wM cy cz m M) [(0, .ref (m 0)), (1, .int key)] [] 0
  refine g_aload_n C dX4_placeOf_0 0 rfl rfl ?_
  refine g_iload_n C dX4_placeOf_1 1 rfl rfl ?_
  refine g_callIV C [0, 1, 2, 3, 4, 5, 6, 7, 8, 9, 10] [] [0, 1, 2, 3, 4, 5, 6, 7, 8, 9, 10] 0 4 (b := m 0) rfl rfl (As := [.int key]) (rest := []) (wr := ([] : va_W)) (wf := fun _ => (wM cy cz m M)) dX4_placeOf_2 gX4_placeOf_X4_addressOf rfl dmX4_addressOf ⟨rfl, rfl, Nat.le_of_ble_eq_true rfl, Nat.le_of_ble_eq_true rfl, Nat.zero_le _, Nat.zero_le _⟩ (c_X4_addressOf l D cy cz m M A.L A.S key hr.2.2.1 hr.2.2.2 hr.2.1.1 hr.S64) ⟨rfl, rfl, rfl, rfl, by decide, rfl, fun _ => rfl⟩ (Nat.le_of_ble_eq_true rfl) ?_
  rintro _ - rfl
  show G x l (rmF 2 72) D 4 0 0 (wM cy cz m M) [(0, .ref (m 0)), (1, .int key)] [.int (nI (adr A.L A.S key))] 5
  refine g_top (b := nI (A.ad key)) (rfl) ?_
  refine g_istore_n C (lv' := [(2, .int (nI (A.ad key))), (0, .ref (m 0)), (1, .int key)]) dX4_placeOf_5 rfl (by decide) rfl ?_
  refine g_loop (σ := List Nat) (fun (a : List Nat) => match a with | r => (wM cy cz m M)) (fun (a : List Nat) => match a with | r => [(2, .int (hdI r)), (0, .ref (m 0)), (1, .int key)]) (fun (a : List Nat) => match a with | r => (isCh (M 4) r) ∧ (A.fnd key = fndL A.sz A.ks key r)) (fun (a : List Nat) => match a with | r => r.length) ?_ (A.ch (A.ad key)) (⟨hr.1.chain (hr.adlt key), rfl⟩)
  intro a hI ih
  obtain ⟨r, rfl⟩ : ∃ z, z = a := ⟨_, rfl⟩
  obtain ⟨i1, i3⟩ : (isCh (M 4) r) ∧ (A.fnd key = fndL A.sz A.ks key r) := hI
  show G x l (rmF 2 72) D 4 0 0 (wM cy cz m M) [(2, .int (hdI r)), (0, .ref (m 0)), (1, .int key)] [] 6
  rcases r with _ | ⟨q, r⟩
  · skip
    show G x l (rmF 2 72) D 4 0 0 (wM cy cz m M) [(2, .int vNONE), (0, .ref (m 0)), (1, .int key)] [] 6
    refine g_iload_n C dX4_placeOf_6 0 rfl rfl ?_
    refine g_ldc C (v := vNONE) mX4_placeOf_k44 dX4_placeOf_7 ?_
    refine g_icmp_eq C (tgt := 60) dX4_placeOf_9 (by decide) (fun c1 => ?_) (fun c1 => ?_)
    · skip
      refine g_ldc C (v := vNONE) mX4_placeOf_k44 dX4_placeOf_60 ?_
      exact ret _ () _ _ dX4_placeOf_62 (by rw [i3]; rfl)
    · skip
      exact absurd rfl (c1)
  · skip
    obtain ⟨hq, hn, i1⟩ := i1
    have hz := hr.1.sz4 hq
    show G x l (rmF 2 72) D 4 0 0 (wM cy cz m M) [(2, .int (nI q)), (0, .ref (m 0)), (1, .int key)] [] 6
    refine g_iload_n C dX4_placeOf_6 0 rfl rfl ?_
    refine g_ldc C (v := vNONE) mX4_placeOf_k44 dX4_placeOf_7 ?_
    refine g_icmp_eq C (tgt := 60) dX4_placeOf_9 (by decide) (fun c1 => ?_) (fun c1 => ?_)
    · skip
      exact absurd c1 (NONE_nI (by omega))
    · skip
      refine g_iconst C (v := 0) dX4_placeOf_12 (by decide) ?_
      refine g_istore_n C (lv' := [(3, .int 0), (2, .int (nI q)), (0, .ref (m 0)), (1, .int key)]) dX4_placeOf_13 rfl (by decide) rfl ?_
      refine g_loop (σ := Nat) (fun (a : Nat) => match a with | i => (wM cy cz m M)) (fun (a : Nat) => match a with | i => [(3, .int (nI i)), (2, .int (nI q)), (0, .ref (m 0)), (1, .int key)]) (fun (a : Nat) => match a with | i => (i ≤ A.sz q) ∧ (A.fnd key = match fndI A.ks key q (A.sz q - i) i with | some c => some c | none => fndL A.sz A.ks key r)) (fun (a : Nat) => match a with | i => A.sz q - i) ?_ 0 (⟨Nat.zero_le _, i3⟩)
      intro a hI ih2
      obtain ⟨i, rfl⟩ : ∃ z, z = a := ⟨_, rfl⟩
      obtain ⟨k1, k2⟩ : (i ≤ A.sz q) ∧ (A.fnd key = match fndI A.ks key q (A.sz q - i) i with | some c => some c | none => fndL A.sz A.ks key r) := hI
      show G x l (rmF 2 72) D 4 0 0 (wM cy cz m M) [(3, .int (nI i)), (2, .int (nI q)), (0, .ref (m 0)), (1, .int key)] [] 14
      refine g_iload_n C dX4_placeOf_14 0 rfl rfl ?_
      refine g_aload_n C dX4_placeOf_15 2 rfl rfl ?_
      refine g_get C 0 (f := 2) (v := .ref (m 3)) (Cn := RX4) (T := TX4) (N := 20) dX4_placeOf_16 rfl rfl iX4_placeOf_X4 (by decide) mX4_placeOf_f16 rfl ?_
      refine g_iload_n C dX4_placeOf_19 1 rfl rfl ?_
      refine g_iald C 3 0 (f := M 3) (N := 128) q dX4_placeOf_20 rfl rfl (by decide) (rfl) (hq) ?_
      refine g_top (b := nI (A.sz q)) (hr.1.used hq) ?_
      refine g_icmp_ge C (tgt := 50) dX4_placeOf_21 (by decide) (fun c4 => ?_) (fun c4 => ?_)
      · skip
        have h3 : A.sz q ≤ i := (nI_leI (by omega) (by omega)).mp c4
        have e1 : A.fnd key = fndL A.sz A.ks key r := by rw [k2, show A.sz q - i = 0 by omega]; rfl
        refine g_aload_n C dX4_placeOf_50 2 rfl rfl ?_
        refine g_get C 0 (f := 3) (v := .ref (m 4)) (Cn := RX4) (T := TX4) (N := 20) dX4_placeOf_51 rfl rfl iX4_placeOf_X4 (by decide) mX4_placeOf_f19 rfl ?_
        refine g_iload_n C dX4_placeOf_54 1 rfl rfl ?_
        refine g_iald C 4 0 (f := M 4) (N := 128) q dX4_placeOf_55 rfl rfl (by decide) (rfl) (hq) ?_
        refine g_top (b := hdI r) (hn) ?_
        refine g_istore_n C (lv' := [(2, .int (hdI r)), (3, .int (nI i)), (0, .ref (m 0)), (1, .int key)]) dX4_placeOf_56 rfl (by decide) rfl ?_
        refine g_goto C (tgt := 6) dX4_placeOf_57 (by decide) ?_
        refine g_lv (lv' := [(2, .int (hdI r)), (0, .ref (m 0)), (1, .int key)]) [0, 2, 3] rfl ?_
        exact ih r ⟨i1, e1⟩ (Nat.lt_succ_self _)
      · skip
        have h3 : i < A.sz q := Nat.lt_of_not_le (fun w => c4 (nI_le w (by omega)))
        refine g_aload_n C dX4_placeOf_24 2 rfl rfl ?_
        refine g_get C 0 (f := 0) (v := .ref (m 1)) (Cn := RX4) (T := TX4) (N := 20) dX4_placeOf_25 rfl rfl iX4_placeOf_X4 (by decide) mX4_placeOf_f7 rfl ?_
        refine g_iconst C (v := 4) dX4_placeOf_28 (by decide) ?_
        refine g_iload_n C dX4_placeOf_29 1 rfl rfl ?_
        refine g_imul C dX4_placeOf_30 ?_
        refine g_top (b := nI (q * 4)) (mul4 q) ?_
        refine g_iload_n C dX4_placeOf_31 0 rfl rfl ?_
        refine g_iadd C dX4_placeOf_32 ?_
        refine g_top (b := nI (q * 4 + i)) (nI_add _ _) ?_
        refine g_iald C 1 0 (f := M 1) (N := 512) (q * 4 + i) dX4_placeOf_33 rfl rfl (by decide) (rfl) (by omega) ?_
        refine g_top (b := A.ks (q * 4 + i)) (hr.1.key hq h3) ?_
        refine g_iload_n C dX4_placeOf_34 3 rfl rfl ?_
        refine g_icmp_ne C (tgt := 44) dX4_placeOf_35 (by decide) (fun c5 => ?_) (fun c5 => ?_)
        · skip
          refine g_iinc C (q := 0) (v := nI (i + 1)) (lv' := [(3, .int (nI (i + 1))), (2, .int (nI q)), (0, .ref (m 0)), (1, .int key)]) dX4_placeOf_44 rfl (nI_1 i) (by decide) rfl ?_
          refine g_goto C (tgt := 14) dX4_placeOf_47 (by decide) ?_
          exact ih2 (i + 1) ⟨by omega, by rw [k2, fndI_miss h3 c5]⟩ (by show A.sz q - (i + 1) < A.sz q - i; omega)
        · skip
          refine g_iconst C (v := 4) dX4_placeOf_38 (by decide) ?_
          refine g_iload_n C dX4_placeOf_39 1 rfl rfl ?_
          refine g_imul C dX4_placeOf_40 ?_
          refine g_top (b := nI (q * 4)) (mul4 q) ?_
          refine g_iload_n C dX4_placeOf_41 0 rfl rfl ?_
          refine g_iadd C dX4_placeOf_42 ?_
          refine g_top (b := nI (q * 4 + i)) (nI_add _ _) ?_
          exact ret _ () _ _ dX4_placeOf_43 (by rw [k2, fndI_hit h3 c5]; rfl)

theorem mX4_manyIn_k44 : Cond.constant RX4 44 (-2000000005) ∈ wsX4_manyIn := List.mem_of_getElem? (i := 1) rfl
theorem mX4_manyIn_f16 : Cond.fieldLink RX4 16 (TX4 2).1 (TX4 2).2.1 (TX4 2).2.2.1 ∈ wsX4_manyIn := List.mem_of_getElem? (i := 2) rfl
theorem iX4_manyIn_X4 : ∀ w ∈ wsX40, w ∈ wsX4_manyIn := by decide +kernel
theorem mX4_manyIn_f19 : Cond.fieldLink RX4 19 (TX4 3).1 (TX4 3).2.1 (TX4 3).2.2.1 ∈ wsX4_manyIn := List.mem_of_getElem? (i := 3) rfl
set_option maxHeartbeats 1600000 in
set_option maxRecDepth 20000 in
theorem c_X4_manyIn (l : Launch) (D : va_G) (cy cz : ClassId) (m : Nat → Nat) (M : Mem) (A : AS) (b : Nat) (hr : RD A M) (hb : b < 64) : MId l yX4_manyIn wsX4_manyIn (rmF 0 0) D (tyL cy cz) [.ref (m 0), .int (nI b)] (wM cy cz m M) (nI (A.cnt b)) (wM cy cz m M) := by
  refine g_entI (cc := cX4_manyIn) (maxL := 4) (own := RX4) (by decide) rfl rfl (Nat.le_of_ble_eq_true rfl) (fun x C ret => ?_)
  show G x l (rmF 0 0) D 4 0 0 (wM cy cz m M) [(0, .ref (m 0)), (1, .int (nI b))] [] 0
  refine g_iconst C (v := 0) dX4_manyIn_0 (by decide) ?_
  refine g_istore_n C (lv' := [(2, .int 0), (0, .ref (m 0)), (1, .int (nI b))]) dX4_manyIn_1 rfl (by decide) rfl ?_
  refine g_iload_n C dX4_manyIn_2 2 rfl rfl ?_
  refine g_istore_n C (lv' := [(3, .int (nI b)), (2, .int 0), (0, .ref (m 0)), (1, .int (nI b))]) dX4_manyIn_3 rfl (by decide) rfl ?_
  refine g_lv (lv' := [(2, .int 0), (3, .int (nI b)), (0, .ref (m 0)), (1, .int (nI b))]) [1, 0, 2, 3] rfl ?_
  refine g_loop (σ := List Nat × Nat) (fun (a : List Nat × Nat) => match a with | (r, n) => (wM cy cz m M)) (fun (a : List Nat × Nat) => match a with | (r, n) => [(2, .int (nI n)), (3, .int (hdI r)), (0, .ref (m 0)), (1, .int (nI b))]) (fun (a : List Nat × Nat) => match a with | (r, n) => (isCh (M 4) r) ∧ (A.cnt b = n + sumL A.sz r)) (fun (a : List Nat × Nat) => match a with | (r, n) => r.length) ?_ (A.ch b, 0) (⟨hr.chain hb, by rw [Nat.zero_add, hr.1.sum hb]⟩)
  intro a hI ih
  obtain ⟨r, n⟩ := a
  obtain ⟨i1, i3⟩ : (isCh (M 4) r) ∧ (A.cnt b = n + sumL A.sz r) := hI
  show G x l (rmF 0 0) D 4 0 0 (wM cy cz m M) [(2, .int (nI n)), (3, .int (hdI r)), (0, .ref (m 0)), (1, .int (nI b))] [] 4
  rcases r with _ | ⟨q, r⟩
  · skip
    show G x l (rmF 0 0) D 4 0 0 (wM cy cz m M) [(2, .int (nI n)), (3, .int vNONE), (0, .ref (m 0)), (1, .int (nI b))] [] 4
    refine g_iload_n C dX4_manyIn_4 1 rfl rfl ?_
    refine g_ldc C (v := vNONE) mX4_manyIn_k44 dX4_manyIn_5 ?_
    refine g_icmp_eq C (tgt := 29) dX4_manyIn_7 (by decide) (fun c1 => ?_) (fun c1 => ?_)
    · skip
      refine g_iload_n C dX4_manyIn_29 0 rfl rfl ?_
      exact ret _ () _ _ dX4_manyIn_30 (by rw [i3]; rfl)
    · skip
      exact absurd rfl (c1)
  · skip
    obtain ⟨hq, hn, i1⟩ := i1
    have i3 : A.cnt b = n + (A.sz q + sumL A.sz r) := i3
    show G x l (rmF 0 0) D 4 0 0 (wM cy cz m M) [(2, .int (nI n)), (3, .int (nI q)), (0, .ref (m 0)), (1, .int (nI b))] [] 4
    refine g_iload_n C dX4_manyIn_4 1 rfl rfl ?_
    refine g_ldc C (v := vNONE) mX4_manyIn_k44 dX4_manyIn_5 ?_
    refine g_icmp_eq C (tgt := 29) dX4_manyIn_7 (by decide) (fun c1 => ?_) (fun c1 => ?_)
    · skip
      exact absurd c1 (NONE_nI (by omega))
    · skip
      refine g_iload_n C dX4_manyIn_10 0 rfl rfl ?_
      refine g_aload_n C dX4_manyIn_11 2 rfl rfl ?_
      refine g_get C 0 (f := 2) (v := .ref (m 3)) (Cn := RX4) (T := TX4) (N := 20) dX4_manyIn_12 rfl rfl iX4_manyIn_X4 (by decide) mX4_manyIn_f16 rfl ?_
      refine g_iload_n C dX4_manyIn_15 1 rfl rfl ?_
      refine g_iald C 3 0 (f := M 3) (N := 128) q dX4_manyIn_16 rfl rfl (by decide) (rfl) (hq) ?_
      refine g_top (b := nI (A.sz q)) (hr.used hq) ?_
      refine g_iadd C dX4_manyIn_17 ?_
      refine g_top (b := nI (n + A.sz q)) (nI_add _ _) ?_
      refine g_istore_n C (lv' := [(2, .int (nI (n + A.sz q))), (3, .int (nI q)), (0, .ref (m 0)), (1, .int (nI b))]) dX4_manyIn_18 rfl (by decide) rfl ?_
      refine g_aload_n C dX4_manyIn_19 2 rfl rfl ?_
      refine g_get C 0 (f := 3) (v := .ref (m 4)) (Cn := RX4) (T := TX4) (N := 20) dX4_manyIn_20 rfl rfl iX4_manyIn_X4 (by decide) mX4_manyIn_f19 rfl ?_
      refine g_iload_n C dX4_manyIn_23 1 rfl rfl ?_
      refine g_iald C 4 0 (f := M 4) (N := 128) q dX4_manyIn_24 rfl rfl (by decide) (rfl) (hq) ?_
      refine g_top (b := hdI r) (hn) ?_
      refine g_istore_n C (lv' := [(3, .int (hdI r)), (2, .int (nI (n + A.sz q))), (0, .ref (m 0)), (1, .int (nI b))]) dX4_manyIn_25 rfl (by decide) rfl ?_
      refine g_goto C (tgt := 4) dX4_manyIn_26 (by decide) ?_
      refine g_lv (lv' := [(2, .int (nI (n + A.sz q))), (3, .int (hdI r)), (0, .ref (m 0)), (1, .int (nI b))]) [1, 0, 2, 3] rfl ?_
      exact ih (r, n + A.sz q) ⟨i1, by omega⟩ (Nat.lt_succ_self _)

theorem mX4_pagesIn_k44 : Cond.constant RX4 44 (-2000000005) ∈ wsX4_pagesIn := List.mem_of_getElem? (i := 1) rfl
theorem mX4_pagesIn_f19 : Cond.fieldLink RX4 19 (TX4 3).1 (TX4 3).2.1 (TX4 3).2.2.1 ∈ wsX4_pagesIn := List.mem_of_getElem? (i := 2) rfl
theorem iX4_pagesIn_X4 : ∀ w ∈ wsX40, w ∈ wsX4_pagesIn := by decide +kernel
set_option maxHeartbeats 1600000 in
set_option maxRecDepth 20000 in
theorem c_X4_pagesIn (l : Launch) (D : va_G) (cy cz : ClassId) (m : Nat → Nat) (M : Mem) (A : AS) (b : Nat) (hr : RD A M) (hb : b < 64) : MId l yX4_pagesIn wsX4_pagesIn (rmF 0 0) D (tyL cy cz) [.ref (m 0), .int (nI b)] (wM cy cz m M) (nI ((A.tl b).length + 1)) (wM cy cz m M) := by
  refine g_entI (cc := cX4_pagesIn) (maxL := 4) (own := RX4) (by decide) rfl rfl (Nat.le_of_ble_eq_true rfl) (fun x C ret => ?_)
  show G x l (rmF 0 0) D 4 0 0 (wM cy cz m M) [(0, .ref (m 0)), (1, .int (nI b))] [] 0
  refine g_iconst C (v := 0) dX4_pagesIn_0 (by decide) ?_
  refine g_istore_n C (lv' := [(2, .int 0), (0, .ref (m 0)), (1, .int (nI b))]) dX4_pagesIn_1 rfl (by decide) rfl ?_
  refine g_iload_n C dX4_pagesIn_2 2 rfl rfl ?_
  refine g_istore_n C (lv' := [(3, .int (nI b)), (2, .int 0), (0, .ref (m 0)), (1, .int (nI b))]) dX4_pagesIn_3 rfl (by decide) rfl ?_
  refine g_lv (lv' := [(2, .int 0), (3, .int (nI b)), (0, .ref (m 0)), (1, .int (nI b))]) [1, 0, 2, 3] rfl ?_
  refine g_loop (σ := List Nat × Nat) (fun (a : List Nat × Nat) => match a with | (r, n) => (wM cy cz m M)) (fun (a : List Nat × Nat) => match a with | (r, n) => [(2, .int (nI n)), (3, .int (hdI r)), (0, .ref (m 0)), (1, .int (nI b))]) (fun (a : List Nat × Nat) => match a with | (r, n) => (isCh (M 4) r) ∧ ((A.tl b).length + 1 = n + r.length)) (fun (a : List Nat × Nat) => match a with | (r, n) => r.length) ?_ (A.ch b, 0) (⟨hr.chain hb, (Nat.zero_add _).symm⟩)
  intro a hI ih
  obtain ⟨r, n⟩ := a
  obtain ⟨i1, i3⟩ : (isCh (M 4) r) ∧ ((A.tl b).length + 1 = n + r.length) := hI
  show G x l (rmF 0 0) D 4 0 0 (wM cy cz m M) [(2, .int (nI n)), (3, .int (hdI r)), (0, .ref (m 0)), (1, .int (nI b))] [] 4
  rcases r with _ | ⟨q, r⟩
  · skip
    show G x l (rmF 0 0) D 4 0 0 (wM cy cz m M) [(2, .int (nI n)), (3, .int vNONE), (0, .ref (m 0)), (1, .int (nI b))] [] 4
    refine g_iload_n C dX4_pagesIn_4 1 rfl rfl ?_
    refine g_ldc C (v := vNONE) mX4_pagesIn_k44 dX4_pagesIn_5 ?_
    refine g_icmp_eq C (tgt := 23) dX4_pagesIn_7 (by decide) (fun c1 => ?_) (fun c1 => ?_)
    · skip
      refine g_iload_n C dX4_pagesIn_23 0 rfl rfl ?_
      exact ret _ () _ _ dX4_pagesIn_24 (by rw [i3]; rfl)
    · skip
      exact absurd rfl (c1)
  · skip
    obtain ⟨hq, hn, i1⟩ := i1
    have i3 : (A.tl b).length + 1 = n + (r.length + 1) := i3
    show G x l (rmF 0 0) D 4 0 0 (wM cy cz m M) [(2, .int (nI n)), (3, .int (nI q)), (0, .ref (m 0)), (1, .int (nI b))] [] 4
    refine g_iload_n C dX4_pagesIn_4 1 rfl rfl ?_
    refine g_ldc C (v := vNONE) mX4_pagesIn_k44 dX4_pagesIn_5 ?_
    refine g_icmp_eq C (tgt := 23) dX4_pagesIn_7 (by decide) (fun c1 => ?_) (fun c1 => ?_)
    · skip
      exact absurd c1 (NONE_nI (by omega))
    · skip
      refine g_iinc C (q := 0) (v := nI (n + 1)) (lv' := [(2, .int (nI (n + 1))), (3, .int (nI q)), (0, .ref (m 0)), (1, .int (nI b))]) dX4_pagesIn_10 rfl (nI_1 n) (by decide) rfl ?_
      refine g_aload_n C dX4_pagesIn_13 2 rfl rfl ?_
      refine g_get C 0 (f := 3) (v := .ref (m 4)) (Cn := RX4) (T := TX4) (N := 20) dX4_pagesIn_14 rfl rfl iX4_pagesIn_X4 (by decide) mX4_pagesIn_f19 rfl ?_
      refine g_iload_n C dX4_pagesIn_17 1 rfl rfl ?_
      refine g_iald C 4 0 (f := M 4) (N := 128) q dX4_pagesIn_18 rfl rfl (by decide) (rfl) (hq) ?_
      refine g_top (b := hdI r) (hn) ?_
      refine g_istore_n C (lv' := [(3, .int (hdI r)), (2, .int (nI (n + 1))), (0, .ref (m 0)), (1, .int (nI b))]) dX4_pagesIn_19 rfl (by decide) rfl ?_
      refine g_goto C (tgt := 4) dX4_pagesIn_20 (by decide) ?_
      refine g_lv (lv' := [(2, .int (nI (n + 1))), (3, .int (hdI r)), (0, .ref (m 0)), (1, .int (nI b))]) [1, 0, 2, 3] rfl ?_
      exact ih (r, n + 1) ⟨i1, by omega⟩ (Nat.lt_succ_self _)

theorem mX4_hold_k44 : Cond.constant RX4 44 (-2000000005) ∈ wsX4_hold := List.mem_of_getElem? (i := 1) rfl
theorem mX4_hold_f16 : Cond.fieldLink RX4 16 (TX4 2).1 (TX4 2).2.1 (TX4 2).2.2.1 ∈ wsX4_hold := List.mem_of_getElem? (i := 2) rfl
theorem iX4_hold_X4 : ∀ w ∈ wsX40, w ∈ wsX4_hold := by decide +kernel
theorem mX4_hold_f19 : Cond.fieldLink RX4 19 (TX4 3).1 (TX4 3).2.1 (TX4 3).2.2.1 ∈ wsX4_hold := List.mem_of_getElem? (i := 8) rfl
theorem mX4_hold_f22 : Cond.fieldLink RX4 22 (TX4 4).1 (TX4 4).2.1 (TX4 4).2.2.1 ∈ wsX4_hold := List.mem_of_getElem? (i := 9) rfl
theorem mX4_hold_f35 : Cond.fieldLink RX4 35 (TX4 17).1 (TX4 17).2.1 (TX4 17).2.2.1 ∈ wsX4_hold := List.mem_of_getElem? (i := 3) rfl
theorem mX4_hold_f67 : Cond.fieldLink RX4 67 (TX4 19).1 (TX4 19).2.1 (TX4 19).2.2.1 ∈ wsX4_hold := List.mem_of_getElem? (i := 4) rfl
theorem mX4_hold_f7 : Cond.fieldLink RX4 7 (TX4 0).1 (TX4 0).2.1 (TX4 0).2.2.1 ∈ wsX4_hold := List.mem_of_getElem? (i := 5) rfl
theorem mX4_hold_f38 : Cond.fieldLink RX4 38 (TX4 18).1 (TX4 18).2.1 (TX4 18).2.2.1 ∈ wsX4_hold := List.mem_of_getElem? (i := 6) rfl
theorem mX4_hold_f13 : Cond.fieldLink RX4 13 (TX4 1).1 (TX4 1).2.1 (TX4 1).2.2.1 ∈ wsX4_hold := List.mem_of_getElem? (i := 7) rfl
set_option maxHeartbeats 1600000 in
set_option maxRecDepth 20000 in
theorem c_X4_hold (l : Launch) (D : va_G) (cy cz : ClassId) (m : Nat → Nat) (M : Mem) (A : AS) (h : EL) (b : Nat) (hr : RD A M) (hz : RH M h) (hb : b < 64) (hlen : h.length + sumL A.sz (A.ch b) ≤ 512) : MV l yX4_hold wsX4_hold (rmF 0 0) D (tyL cy cz) [.ref (m 0), .int (nI b)] (wM cy cz m M) (fun (M1 : Mem) => RD (A.clr b) M1 ∧ RH M1 (h ++ A.held b) ∧ KH M M1) (fun M1 => (wM cy cz m M1)) := by
  refine g_entV (cc := cX4_hold) (maxL := 4) (own := RX4) (by decide) rfl rfl (Nat.le_of_ble_eq_true rfl) (fun x C ret => ?_)
  show G x l (rmF 0 0) D 4 0 0 (wM cy cz m M) [(0, .ref (m 0)), (1, .int (nI b))] [] 0
  refine g_iload_n C dX4_hold_0 1 rfl rfl ?_
  refine g_istore_n C (lv' := [(2, .int (nI b)), (0, .ref (m 0)), (1, .int (nI b))]) dX4_hold_1 rfl (by decide) rfl ?_
  refine g_loop (σ := List Nat × List Nat × Mem) (fun (a : List Nat × List Nat × Mem) => match a with | (dn, r, M1) => (wM cy cz m M1)) (fun (a : List Nat × List Nat × Mem) => match a with | (dn, r, M1) => [(2, .int (hdI r)), (0, .ref (m 0)), (1, .int (nI b))]) (fun (a : List Nat × List Nat × Mem) => match a with | (dn, r, M1) => (A.ch b = dn ++ r) ∧ (CLM M dn M1) ∧ (RH M1 (h ++ A.heldL dn)) ∧ (isCh (M 4) r)) (fun (a : List Nat × List Nat × Mem) => match a with | (dn, r, M1) => r.length) ?_ ([], A.ch b, M) (⟨rfl, CLM_nil M, by rw [show A.heldL [] = [] from rfl, List.append_nil]; exact hz, hr.chain hb⟩)
  intro a hI ih
  obtain ⟨dn, r, M1⟩ := a
  obtain ⟨i1, i2, i4, i5⟩ : (A.ch b = dn ++ r) ∧ (CLM M dn M1) ∧ (RH M1 (h ++ A.heldL dn)) ∧ (isCh (M 4) r) := hI
  show G x l (rmF 0 0) D 4 0 0 (wM cy cz m M1) [(2, .int (hdI r)), (0, .ref (m 0)), (1, .int (nI b))] [] 2
  have hnd := hr.1.nodup hb
  rcases r with _ | ⟨q, r⟩
  · skip
    rw [List.append_nil] at i1
    show G x l (rmF 0 0) D 4 0 0 (wM cy cz m M1) [(2, .int vNONE), (0, .ref (m 0)), (1, .int (nI b))] [] 2
    refine g_iload_n C dX4_hold_2 0 rfl rfl ?_
    refine g_ldc C (v := vNONE) mX4_hold_k44 dX4_hold_3 ?_
    refine g_icmp_eq C (tgt := 118) dX4_hold_5 (by decide) (fun c1 => ?_) (fun c1 => ?_)
    · skip
      exact ret M1 _ _ dX4_hold_118 (⟨RD_clr hr hb (by rw [i1]; exact i2), by unfold AS.held; rw [i1]; exact i4, i2.2.2.2.2.2⟩)
    · skip
      exact absurd rfl (c1)
  · skip
    obtain ⟨hq, hn, i5⟩ := i5
    rw [i1] at hnd
    have hqd : ¬ q ∈ dn := fun w => (List.nodup_append.mp hnd).2.2 q w q List.mem_cons_self rfl
    have hz4 := hr.sz4 hq
    have hsum : sumL A.sz (A.ch b) = sumL A.sz dn + (A.sz q + sumL A.sz r) := by rw [i1, sumL_app]; rfl
    show G x l (rmF 0 0) D 4 0 0 (wM cy cz m M1) [(2, .int (nI q)), (0, .ref (m 0)), (1, .int (nI b))] [] 2
    refine g_iload_n C dX4_hold_2 0 rfl rfl ?_
    refine g_ldc C (v := vNONE) mX4_hold_k44 dX4_hold_3 ?_
    refine g_icmp_eq C (tgt := 118) dX4_hold_5 (by decide) (fun c1 => ?_) (fun c1 => ?_)
    · skip
      exact absurd c1 (NONE_nI (by omega))
    · skip
      refine g_iconst C (v := 0) dX4_hold_8 (by decide) ?_
      refine g_istore_n C (lv' := [(3, .int 0), (2, .int (nI q)), (0, .ref (m 0)), (1, .int (nI b))]) dX4_hold_9 rfl (by decide) rfl ?_
      refine g_loop (σ := Nat × Mem) (fun (a : Nat × Mem) => match a with | (i, M2) => (wM cy cz m M2)) (fun (a : Nat × Mem) => match a with | (i, M2) => [(3, .int (nI i)), (2, .int (nI q)), (0, .ref (m 0)), (1, .int (nI b))]) (fun (a : Nat × Mem) => match a with | (i, M2) => (i ≤ A.sz q) ∧ (RH M2 (h ++ A.heldL dn ++ A.hp q i)) ∧ (CLM M dn M2)) (fun (a : Nat × Mem) => match a with | (i, M2) => A.sz q - i) ?_ (0, M1) (⟨Nat.zero_le _, by rw [show A.hp q 0 = [] from rfl, List.append_nil]; exact i4, i2⟩)
      intro a hI ih2
      obtain ⟨i, M2⟩ := a
      obtain ⟨k1, k2, k4⟩ : (i ≤ A.sz q) ∧ (RH M2 (h ++ A.heldL dn ++ A.hp q i)) ∧ (CLM M dn M2) := hI
      show G x l (rmF 0 0) D 4 0 0 (wM cy cz m M2) [(3, .int (nI i)), (2, .int (nI q)), (0, .ref (m 0)), (1, .int (nI b))] [] 10
      have hu : M2 3 q = nI (A.sz q) := by rw [k4.1 q, if_neg hqd]; exact hr.used hq
      have hbh : M2 4 q = hdI r := by rw [k4.2.1 q, if_neg hqd]; exact hn
      have e1 := k4.2.2.2.1
      have e2 := k4.2.2.2.2.1
      have hll : (h ++ A.heldL dn ++ A.hp q i).length = h.length + sumL A.sz dn + i := by rw [List.length_append, List.length_append, heldL_len, hp_len]
      refine g_iload_n C dX4_hold_10 0 rfl rfl ?_
      refine g_aload_n C dX4_hold_11 2 rfl rfl ?_
      refine g_get C 0 (f := 2) (v := .ref (m 3)) (Cn := RX4) (T := TX4) (N := 20) dX4_hold_12 rfl rfl iX4_hold_X4 (by decide) mX4_hold_f16 rfl ?_
      refine g_iload_n C dX4_hold_15 1 rfl rfl ?_
      refine g_iald C 3 0 (f := M2 3) (N := 128) q dX4_hold_16 rfl rfl (by decide) (rfl) (hq) ?_
      refine g_top (b := nI (A.sz q)) (hu) ?_
      refine g_icmp_ge C (tgt := 74) dX4_hold_17 (by decide) (fun c4 => ?_) (fun c4 => ?_)
      · skip
        have h3 : A.sz q ≤ i := (nI_leI (by omega) (by omega)).mp c4
        have k3 : RH M2 (h ++ A.heldL (dn ++ [q])) := by rw [show i = A.sz q by omega] at k2; rw [heldL_app, show A.heldL [q] = A.hp q (A.sz q) ++ [] from rfl, List.append_nil, ← List.append_assoc]; exact k2
        refine g_aload_n C dX4_hold_74 2 rfl rfl ?_
        refine g_get C 0 (f := 3) (v := .ref (m 4)) (Cn := RX4) (T := TX4) (N := 20) dX4_hold_75 rfl rfl iX4_hold_X4 (by decide) mX4_hold_f19 rfl ?_
        refine g_iload_n C dX4_hold_78 1 rfl rfl ?_
        refine g_iald C 4 0 (f := M2 4) (N := 128) q dX4_hold_79 rfl rfl (by decide) (rfl) (hq) ?_
        refine g_top (b := hdI r) (hbh) ?_
        refine g_istore_n C (lv' := [(3, .int (hdI r)), (2, .int (nI q)), (0, .ref (m 0)), (1, .int (nI b))]) dX4_hold_80 rfl (by decide) rfl ?_
        refine g_aload_n C dX4_hold_81 2 rfl rfl ?_
        refine g_get C 0 (f := 2) (v := .ref (m 3)) (Cn := RX4) (T := TX4) (N := 20) dX4_hold_82 rfl rfl iX4_hold_X4 (by decide) mX4_hold_f16 rfl ?_
        refine g_iload_n C dX4_hold_85 1 rfl rfl ?_
        refine g_iconst C (v := 0) dX4_hold_86 (by decide) ?_
        refine g_iast C 3 0 (f := M2 3) (N := 128) (ws' := (wM cy cz m (ps M2 3 q 0))) q dX4_hold_87 rfl rfl (by decide) (rfl) (hq) (wM_a3 cy cz m M2 q 0) ?_
        refine g_aload_n C dX4_hold_88 2 rfl rfl ?_
        refine g_get C 0 (f := 3) (v := .ref (m 4)) (Cn := RX4) (T := TX4) (N := 20) dX4_hold_89 rfl rfl iX4_hold_X4 (by decide) mX4_hold_f19 rfl ?_
        refine g_iload_n C dX4_hold_92 1 rfl rfl ?_
        refine g_ldc C (v := vNONE) mX4_hold_k44 dX4_hold_93 ?_
        refine g_iast C 4 0 (f := (ps M2 3 q 0) 4) (N := 128) (ws' := (wM cy cz m (ps (ps M2 3 q 0) 4 q vNONE))) q dX4_hold_95 rfl rfl (by decide) (rfl) (hq) (wM_a4 cy cz m (ps M2 3 q 0) q vNONE) ?_
        refine g_aload_n C dX4_hold_96 2 rfl rfl ?_
        refine g_get C 0 (f := 4) (v := .ref (m 5)) (Cn := RX4) (T := TX4) (N := 20) dX4_hold_97 rfl rfl iX4_hold_X4 (by decide) mX4_hold_f22 rfl ?_
        refine g_iload_n C dX4_hold_100 1 rfl rfl ?_
        refine g_iload_n C dX4_hold_101 1 rfl rfl ?_
        refine g_bipush C (v := 64) dX4_hold_102 (by decide) ?_
        refine g_icmp_lt C (tgt := 111) dX4_hold_104 (by decide) (fun c6 => ?_) (fun c6 => ?_)
        · skip
          have h7 : ¬ 64 ≤ q := by have := (nI_ltI (b := 64) (by omega) (by decide)).mp c6; omega
          refine g_iconst C (v := 0) dX4_hold_111 (by decide) ?_
          refine g_zast C 5 1 (f := (ps (ps M2 3 q 0) 4 q vNONE) 5) (N := 128) (ws' := (wM cy cz m (ps (ps (ps M2 3 q 0) 4 q vNONE) 5 q 0))) q dX4_hold_112 rfl rfl (by decide) (rfl) (hq) (by decide) (wM_a5 cy cz m (ps (ps M2 3 q 0) 4 q vNONE) q 0) ?_
          refine g_iload_n C dX4_hold_113 0 rfl rfl ?_
          refine g_istore_n C (lv' := [(2, .int (hdI r)), (3, .int (hdI r)), (0, .ref (m 0)), (1, .int (nI b))]) dX4_hold_114 rfl (by decide) rfl ?_
          refine g_goto C (tgt := 2) dX4_hold_115 (by decide) ?_
          refine g_lv (lv' := [(2, .int (hdI r)), (0, .ref (m 0)), (1, .int (nI b))]) [0, 2, 3] rfl ?_
          exact ih (dn ++ [q], r, (ps (ps (ps M2 3 q 0) 4 q vNONE) 5 q 0)) ⟨by rw [i1, List.append_assoc]; rfl, CLM_step k4 (by rw [if_neg h7]), RH_cl k3, i5⟩ (Nat.lt_succ_self _)
        · skip
          have h7 : 64 ≤ q := Nat.le_of_not_lt (fun w => c6 (nI_lt w (by decide)))
          refine g_iconst C (v := 1) dX4_hold_107 (by decide) ?_
          refine g_goto C (tgt := 112) dX4_hold_108 (by decide) ?_
          refine g_zast C 5 1 (f := (ps (ps M2 3 q 0) 4 q vNONE) 5) (N := 128) (ws' := (wM cy cz m (ps (ps (ps M2 3 q 0) 4 q vNONE) 5 q 1))) q dX4_hold_112 rfl rfl (by decide) (rfl) (hq) (by decide) (wM_a5 cy cz m (ps (ps M2 3 q 0) 4 q vNONE) q 1) ?_
          refine g_iload_n C dX4_hold_113 0 rfl rfl ?_
          refine g_istore_n C (lv' := [(2, .int (hdI r)), (3, .int (hdI r)), (0, .ref (m 0)), (1, .int (nI b))]) dX4_hold_114 rfl (by decide) rfl ?_
          refine g_goto C (tgt := 2) dX4_hold_115 (by decide) ?_
          refine g_lv (lv' := [(2, .int (hdI r)), (0, .ref (m 0)), (1, .int (nI b))]) [0, 2, 3] rfl ?_
          exact ih (dn ++ [q], r, (ps (ps (ps M2 3 q 0) 4 q vNONE) 5 q 1)) ⟨by rw [i1, List.append_assoc]; rfl, CLM_step k4 (by rw [if_pos h7]), RH_cl k3, i5⟩ (Nat.lt_succ_self _)
      · skip
        have h3 : i < A.sz q := Nat.lt_of_not_le (fun w => c4 (nI_le w (by omega)))
        refine g_aload_n C dX4_hold_20 2 rfl rfl ?_
        refine g_get C 0 (f := 17) (v := .ref (m 9)) (Cn := RX4) (T := TX4) (N := 20) dX4_hold_21 rfl rfl iX4_hold_X4 (by decide) mX4_hold_f35 rfl ?_
        refine g_aload_n C dX4_hold_24 2 rfl rfl ?_
        refine g_get C 0 (f := 19) (v := .int (M2 0 9)) (Cn := RX4) (T := TX4) (N := 20) dX4_hold_25 rfl rfl iX4_hold_X4 (by decide) mX4_hold_f67 rfl ?_
        refine g_top (b := nI (h ++ A.heldL dn ++ A.hp q i).length) (k2.1) ?_
        refine g_aload_n C dX4_hold_28 2 rfl rfl ?_
        refine g_get C 0 (f := 0) (v := .ref (m 1)) (Cn := RX4) (T := TX4) (N := 20) dX4_hold_29 rfl rfl iX4_hold_X4 (by decide) mX4_hold_f7 rfl ?_
        refine g_iconst C (v := 4) dX4_hold_32 (by decide) ?_
        refine g_iload_n C dX4_hold_33 1 rfl rfl ?_
        refine g_imul C dX4_hold_34 ?_
        refine g_top (b := nI (q * 4)) (mul4 q) ?_
        refine g_iload_n C dX4_hold_35 0 rfl rfl ?_
        refine g_iadd C dX4_hold_36 ?_
        refine g_top (b := nI (q * 4 + i)) (nI_add _ _) ?_
        refine g_iald C 1 0 (f := M2 1) (N := 512) (q * 4 + i) dX4_hold_37 rfl rfl (by decide) (rfl) (by omega) ?_
        refine g_top (b := A.ks (q * 4 + i)) (by rw [e1]; exact hr.key hq h3) ?_
        refine g_iast C 9 0 (f := M2 9) (N := 512) (ws' := (wM cy cz m (ps M2 9 ((h ++ A.heldL dn ++ A.hp q i).length) (A.ks (q * 4 + i))))) ((h ++ A.heldL dn ++ A.hp q i).length) dX4_hold_38 rfl rfl (by decide) (rfl) (by omega) (wM_a9 cy cz m M2 ((h ++ A.heldL dn ++ A.hp q i).length) (A.ks (q * 4 + i))) ?_
        refine g_aload_n C dX4_hold_39 2 rfl rfl ?_
        refine g_get C 0 (f := 18) (v := .ref (m 10)) (Cn := RX4) (T := TX4) (N := 20) dX4_hold_40 rfl rfl iX4_hold_X4 (by decide) mX4_hold_f38 rfl ?_
        refine g_aload_n C dX4_hold_43 2 rfl rfl ?_
        refine g_get C 0 (f := 19) (v := .int (M2 0 9)) (Cn := RX4) (T := TX4) (N := 20) dX4_hold_44 rfl rfl iX4_hold_X4 (by decide) mX4_hold_f67 rfl ?_
        refine g_top (b := nI (h ++ A.heldL dn ++ A.hp q i).length) (k2.1) ?_
        refine g_aload_n C dX4_hold_47 2 rfl rfl ?_
        refine g_get C 0 (f := 1) (v := .ref (m 2)) (Cn := RX4) (T := TX4) (N := 20) dX4_hold_48 rfl rfl iX4_hold_X4 (by decide) mX4_hold_f13 rfl ?_
        refine g_iconst C (v := 4) dX4_hold_51 (by decide) ?_
        refine g_iload_n C dX4_hold_52 1 rfl rfl ?_
        refine g_imul C dX4_hold_53 ?_
        refine g_top (b := nI (q * 4)) (mul4 q) ?_
        refine g_iload_n C dX4_hold_54 0 rfl rfl ?_
        refine g_iadd C dX4_hold_55 ?_
        refine g_top (b := nI (q * 4 + i)) (nI_add _ _) ?_
        refine g_iald C 2 0 (f := M2 2) (N := 512) (q * 4 + i) dX4_hold_56 rfl rfl (by decide) (rfl) (by omega) ?_
        refine g_top (b := A.vs (q * 4 + i)) (by rw [e2]; exact hr.val hq h3) ?_
        refine g_iast C 10 0 (f := (ps M2 9 ((h ++ A.heldL dn ++ A.hp q i).length) (A.ks (q * 4 + i))) 10) (N := 512) (ws' := (wM cy cz m (ps (ps M2 9 ((h ++ A.heldL dn ++ A.hp q i).length) (A.ks (q * 4 + i))) 10 ((h ++ A.heldL dn ++ A.hp q i).length) (A.vs (q * 4 + i))))) ((h ++ A.heldL dn ++ A.hp q i).length) dX4_hold_57 rfl rfl (by decide) (rfl) (by omega) (wM_a10 cy cz m (ps M2 9 ((h ++ A.heldL dn ++ A.hp q i).length) (A.ks (q * 4 + i))) ((h ++ A.heldL dn ++ A.hp q i).length) (A.vs (q * 4 + i))) ?_
        refine g_aload_n C dX4_hold_58 2 rfl rfl ?_
        refine g_dup C dX4_hold_59 rfl ?_
        refine g_get C 0 (f := 19) (v := .int (M2 0 9)) (Cn := RX4) (T := TX4) (N := 20) dX4_hold_60 rfl rfl iX4_hold_X4 (by decide) mX4_hold_f67 rfl ?_
        refine g_top (b := nI (h ++ A.heldL dn ++ A.hp q i).length) (k2.1) ?_
        refine g_iconst C (v := 1) dX4_hold_63 (by decide) ?_
        refine g_iadd C dX4_hold_64 ?_
        refine g_top (b := nI ((h ++ A.heldL dn ++ A.hp q i).length + 1)) (nI_1 _) ?_
        refine g_put C 0 (f := 19) (v := .int (nI ((h ++ A.heldL dn ++ A.hp q i).length + 1))) (ty := .int) (Cn := RX4) (T := TX4) (N := 20) (ws' := (wM cy cz m (ps (ps (ps M2 9 ((h ++ A.heldL dn ++ A.hp q i).length) (A.ks (q * 4 + i))) 10 ((h ++ A.heldL dn ++ A.hp q i).length) (A.vs (q * 4 + i))) 0 9 (nI ((h ++ A.heldL dn ++ A.hp q i).length + 1))))) dX4_hold_65 rfl rfl iX4_hold_X4 tyX4 tyX4_ok nmX4 (by decide) mX4_hold_f67 rfl rfl (rfl) (rfl) (Nat.le_of_ble_eq_true rfl) (wM_s9 cy cz m (ps (ps M2 9 ((h ++ A.heldL dn ++ A.hp q i).length) (A.ks (q * 4 + i))) 10 ((h ++ A.heldL dn ++ A.hp q i).length) (A.vs (q * 4 + i))) (nI ((h ++ A.heldL dn ++ A.hp q i).length + 1))) ?_
        refine g_iinc C (q := 0) (v := nI (i + 1)) (lv' := [(3, .int (nI (i + 1))), (2, .int (nI q)), (0, .ref (m 0)), (1, .int (nI b))]) dX4_hold_68 rfl (nI_1 i) (by decide) rfl ?_
        refine g_goto C (tgt := 10) dX4_hold_71 (by decide) ?_
        exact ih2 (i + 1, (ps (ps (ps M2 9 ((h ++ A.heldL dn ++ A.hp q i).length) (A.ks (q * 4 + i))) 10 ((h ++ A.heldL dn ++ A.hp q i).length) (A.vs (q * 4 + i))) 0 9 (nI ((h ++ A.heldL dn ++ A.hp q i).length + 1)))) ⟨by omega, by rw [hp_succ, ← List.append_assoc]; exact RH_push k2 (by omega) _ _, CLM_held k4⟩ (by show A.sz q - (i + 1) < A.sz q - i; omega)
