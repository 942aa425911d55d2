/-! made by wip/whole/gen.py and m1.py -/
set_option maxHeartbeats 1600000 in
set_option maxRecDepth 20000 in
theorem c_X4_address (l : Launch) (D : va_G) (cy cz : ClassId) (m : Nat → Nat) (M : Mem) (T : TS) (k : Int32) (hy : RY T M) : MI l yX4_address wsX4_address (rmF 2 72) D (tyL cy cz) [.ref (m 0), .int k] (wM cy cz m M) (fun (r : Int32) (M1 : Mem) => r = nI (T.A.ad k) ∧ RY T M1) (fun M1 => (wM cy cz m M1)) := by
  refine g_entI (cc := cX4_address) (maxL := 2) (own := RX4) (by decide) rfl rfl (Nat.le_of_ble_eq_true rfl) (fun x C ret => ?_)
  show G x l (rmF 2 72) D 2 0 0 (wM cy cz m M) [(0, .ref (m 0)), (1, .int k)] [] 0
  refine g_aload_n C dX4_address_0 0 rfl rfl ?_
  refine g_iload_n C dX4_address_1 1 rfl rfl ?_
  refine g_callIV C [0, 1, 2, 3, 4, 5, 6, 7, 8, 9, 10] [] [0, 1, 2, 3, 4, 5, 6, 7, 8, 9, 10] 0 4 (b := m 0) rfl rfl (As := [.int k]) (rest := []) (wr := ([] : va_W)) (wf := fun _ => (wM cy cz m M)) dX4_address_2 gX4_address_X4_addressOf rfl dmX4_addressOf ⟨rfl, rfl, Nat.le_of_ble_eq_true rfl, Nat.le_of_ble_eq_true rfl, Nat.zero_le _, Nat.zero_le _⟩ (c_X4_addressOf l D cy cz m M T.A.L T.A.S k hy.1.2.2.1 hy.1.2.2.2 hy.1.2.1.1 hy.1.S64) ⟨rfl, rfl, rfl, rfl, by decide, rfl, fun _ => rfl⟩ (Nat.le_of_ble_eq_true rfl) ?_
  rintro _ - rfl
  show G x l (rmF 2 72) D 2 0 0 (wM cy cz m M) [(0, .ref (m 0)), (1, .int k)] [.int (nI (adr T.A.L T.A.S k))] 5
  refine g_top (b := nI (T.A.ad k)) (rfl) ?_
  exact ret _ M _ _ dX4_address_5 (⟨rfl, hy⟩)

set_option maxHeartbeats 1600000 in
set_option maxRecDepth 20000 in
theorem c_X4_isBucket (l : Launch) (D : va_G) (cy cz : ClassId) (m : Nat → Nat) (M : Mem) (A : AS) (p : Int32) (hr : RM A M) : MId l yX4_isBucket wsX4_isBucket (rmF 2 72) D (tyL cy cz) [.ref (m 0), .int p] (wM cy cz m M) (inI (nI A.nb) p) (wM cy cz m M) := by
  refine g_entZ (cc := cX4_isBucket) (maxL := 2) (own := RX4) (by decide) rfl rfl (Nat.le_of_ble_eq_true rfl) (fun x C ret => ?_)
  show G x l (rmF 2 72) D 2 0 0 (wM cy cz m M) [(0, .ref (m 0)), (1, .int p)] [] 0
  refine g_iload_n C dX4_isBucket_0 1 rfl rfl ?_
  refine g_if_lt C (tgt := 16) dX4_isBucket_1 (by decide) (fun c1 => ?_) (fun c1 => ?_)
  · skip
    refine g_iconst C (v := 0) dX4_isBucket_16 (by decide) ?_
    exact ret _ () _ _ dX4_isBucket_17 (by decide) (by simp [inI, c1])
  · skip
    refine g_iload_n C dX4_isBucket_4 1 rfl rfl ?_
    refine g_aload_n C dX4_isBucket_5 0 rfl rfl ?_
    refine g_callIV C [0, 1, 2, 3, 4, 5, 6, 7, 8, 9, 10] [] [0, 1, 2, 3, 4, 5, 6, 7, 8, 9, 10] 0 4 (b := m 0) rfl rfl (As := []) (rest := [.int p]) (wr := ([] : va_W)) (wf := fun _ => (wM cy cz m M)) dX4_isBucket_6 gX4_isBucket_X4_buckets rfl dmX4_buckets ⟨rfl, rfl, Nat.le_of_ble_eq_true rfl, Nat.le_of_ble_eq_true rfl, Nat.zero_le _, Nat.zero_le _⟩ (c_X4_buckets l D cy cz m M) ⟨rfl, rfl, rfl, rfl, by decide, rfl, fun _ => rfl⟩ (Nat.le_of_ble_eq_true rfl) ?_
    rintro _ - rfl
    show G x l (rmF 2 72) D 2 0 0 (wM cy cz m M) [(0, .ref (m 0)), (1, .int p)] [.int ((4 <<< (M 0 0 &&& 31)) + M 0 1), .int p] 9
    refine g_top (b := nI A.nb) (hr.nb) ?_
    refine g_icmp_ge C (tgt := 16) dX4_isBucket_9 (by decide) (fun c2 => ?_) (fun c2 => ?_)
    · skip
      refine g_iconst C (v := 0) dX4_isBucket_16 (by decide) ?_
      exact ret _ () _ _ dX4_isBucket_17 (by decide) (by simp [inI, c1, c2])
    · skip
      refine g_iconst C (v := 1) dX4_isBucket_12 (by decide) ?_
      refine g_goto C (tgt := 17) dX4_isBucket_13 (by decide) ?_
      exact ret _ () _ _ dX4_isBucket_17 (by decide) (by simp [inI, c1, c2])

theorem mX4_bucket_k126 : Cond.constant RX4 126 (-2000000001) ∈ wsX4_bucket := List.mem_of_getElem? (i := 1) rfl
set_option maxHeartbeats 1600000 in
set_option maxRecDepth 20000 in
theorem c_X4_bucket (l : Launch) (D : va_G) (cy cz : ClassId) (m : Nat → Nat) (M : Mem) (T : TS) (p : Int32) (what : Int32) (hy : RY T M) : MI l yX4_bucket wsX4_bucket (rmF 3 108) D (tyL cy cz) [.ref (m 0), .int p, .int what] (wM cy cz m M) (fun (r : Int32) (M1 : Mem) => r = aBucket T.A p what ∧ RY T M1) (fun M1 => (wM cy cz m M1)) := by
  refine g_entI (cc := cX4_bucket) (maxL := 3) (own := RX4) (by decide) rfl rfl (Nat.le_of_ble_eq_true rfl) (fun x C ret => ?_)
  show G x l (rmF 3 108) D 3 0 0 (wM cy cz m M) [(0, .ref (m 0)), (1, .int p), (2, .int what)] [] 0
  refine g_aload_n C dX4_bucket_0 0 rfl rfl ?_
  refine g_iload_n C dX4_bucket_1 1 rfl rfl ?_
  refine g_callIV C [0, 1, 2, 3, 4, 5, 6, 7, 8, 9, 10] [] [0, 1, 2, 3, 4, 5, 6, 7, 8, 9, 10] 0 4 (b := m 0) rfl rfl (As := [.int p]) (rest := []) (wr := ([] : va_W)) (wf := fun _ => (wM cy cz m M)) dX4_bucket_2 gX4_bucket_X4_isBucket rfl dmX4_isBucket ⟨rfl, rfl, Nat.le_of_ble_eq_true rfl, Nat.le_of_ble_eq_true rfl, Nat.zero_le _, Nat.zero_le _⟩ (c_X4_isBucket l D cy cz m M T.A p hy.1) ⟨rfl, rfl, rfl, rfl, by decide, rfl, fun _ => rfl⟩ (Nat.le_of_ble_eq_true rfl) ?_
  rintro _ - rfl
  show G x l (rmF 3 108) D 3 0 0 (wM cy cz m M) [(0, .ref (m 0)), (1, .int p), (2, .int what)] [.int (inI (nI T.A.nb) p)] 5
  refine g_if_eq C (tgt := 17) dX4_bucket_5 (by decide) (fun c1 => ?_) (fun c1 => ?_)
  · skip
    refine g_ldc C (v := (-2000000001)) mX4_bucket_k126 dX4_bucket_17 ?_
    exact ret _ M _ _ dX4_bucket_19 (⟨(aBucket_out2 hy.1.nb64 c1).symm, hy⟩)
  · skip
    have n64 := hy.1.nb64
    obtain ⟨q, hq, rfl⟩ := inI_nat (N := T.A.nb) (by omega) c1
    have h64 : q < 64 := by omega
    show G x l (rmF 3 108) D 3 0 0 (wM cy cz m M) [(0, .ref (m 0)), (1, .int (nI q)), (2, .int what)] [] 8
    refine g_iload_n C dX4_bucket_8 2 rfl rfl ?_
    refine g_if_lt C (tgt := 17) dX4_bucket_9 (by decide) (fun c2 => ?_) (fun c2 => ?_)
    · skip
      refine g_ldc C (v := (-2000000001)) mX4_bucket_k126 dX4_bucket_17 ?_
      exact ret _ M _ _ dX4_bucket_19 (⟨(aBucket_sw (sw_neg c2 2)).symm, hy⟩)
    · skip
      refine g_iload_n C dX4_bucket_12 2 rfl rfl ?_
      refine g_iconst C (v := 2) dX4_bucket_13 (by decide) ?_
      refine g_icmp_le C (tgt := 20) dX4_bucket_14 (by decide) (fun c3 => ?_) (fun c3 => ?_)
      · skip
        obtain ⟨kk, hkk, rfl⟩ := rng (n := 3) (by decide) c2 (Int32.lt_of_le_of_lt c3 (by decide))
        show G x l (rmF 3 108) D 3 0 0 (wM cy cz m M) [(0, .ref (m 0)), (1, .int (nI q)), (2, .int (nI kk))] [] 20
        refine g_iload_n C dX4_bucket_20 2 rfl rfl ?_
        refine g_if_ne C (tgt := 32) dX4_bucket_21 (by decide) (fun c4 => ?_) (fun c4 => ?_)
        · skip
          have h0 : ¬ kk = 0 := fun w => c4 (by rw [w]; rfl)
          refine g_iload_n C dX4_bucket_32 2 rfl rfl ?_
          refine g_iconst C (v := 1) dX4_bucket_33 (by decide) ?_
          refine g_icmp_ne C (tgt := 45) dX4_bucket_34 (by decide) (fun c5 => ?_) (fun c5 => ?_)
          · skip
            have h1 : ¬ kk = 1 := fun w => c5 (by rw [w]; rfl)
            refine g_aload_n C dX4_bucket_45 0 rfl rfl ?_
            refine g_iload_n C dX4_bucket_46 1 rfl rfl ?_
            refine g_callIV C [0, 1, 2, 3, 4, 5, 6, 7, 8, 9, 10] [] [0, 1, 2, 3, 4, 5, 6, 7, 8, 9, 10] 0 4 (b := m 0) rfl rfl (As := [.int (nI q)]) (rest := []) (wr := ([] : va_W)) (wf := fun _ => (wM cy cz m M)) dX4_bucket_47 gX4_bucket_X4_lastOf rfl dmX4_lastOf ⟨rfl, rfl, Nat.le_of_ble_eq_true rfl, Nat.le_of_ble_eq_true rfl, Nat.zero_le _, Nat.zero_le _⟩ (c_X4_lastOf l D cy cz m M q (T.A.tl q) (hy.1.1.chain h64)) ⟨rfl, rfl, rfl, rfl, by decide, rfl, fun _ => rfl⟩ (Nat.le_of_ble_eq_true rfl) ?_
            rintro _ - rfl
            show G x l (rmF 3 108) D 3 0 0 (wM cy cz m M) [(0, .ref (m 0)), (1, .int (nI q)), (2, .int (nI kk))] [.int (nI (lst q (T.A.tl q)))] 50
            exact ret _ M _ _ dX4_bucket_50 (⟨by rw [aBucket_in n64 hq (by omega), if_neg h0, if_neg h1, if_pos (by omega)]; rfl, hy⟩)
          · skip
            have h1 : kk = 1 := (nI_eq (b := 1) (by omega) (by decide)).mp c5
            refine g_aload_n C dX4_bucket_37 0 rfl rfl ?_
            refine g_iload_n C dX4_bucket_38 1 rfl rfl ?_
            refine g_callIV C [0, 1, 2, 3, 4, 5, 6, 7, 8, 9, 10] [] [0, 1, 2, 3, 4, 5, 6, 7, 8, 9, 10] 0 4 (b := m 0) rfl rfl (As := [.int (nI q)]) (rest := []) (wr := ([] : va_W)) (wf := fun _ => (wM cy cz m M)) dX4_bucket_39 gX4_bucket_X4_pagesIn rfl dmX4_pagesIn ⟨rfl, rfl, Nat.le_of_ble_eq_true rfl, Nat.le_of_ble_eq_true rfl, Nat.zero_le _, Nat.zero_le _⟩ (c_X4_pagesIn l D cy cz m M T.A q hy.1.1 h64) ⟨rfl, rfl, rfl, rfl, by decide, rfl, fun _ => rfl⟩ (Nat.le_of_ble_eq_true rfl) ?_
            rintro _ - rfl
            show G x l (rmF 3 108) D 3 0 0 (wM cy cz m M) [(0, .ref (m 0)), (1, .int (nI q)), (2, .int (nI kk))] [.int (nI ((T.A.tl q).length + 1))] 42
            refine g_goto C (tgt := 50) dX4_bucket_42 (by decide) ?_
            exact ret _ M _ _ dX4_bucket_50 (⟨by rw [aBucket_in n64 hq (by omega), if_neg h0, if_pos h1], hy⟩)
        · skip
          have h0 : kk = 0 := (nI_eq (b := 0) (by omega) (by decide)).mp c4
          refine g_aload_n C dX4_bucket_24 0 rfl rfl ?_
          refine g_iload_n C dX4_bucket_25 1 rfl rfl ?_
          refine g_callIV C [0, 1, 2, 3, 4, 5, 6, 7, 8, 9, 10] [] [0, 1, 2, 3, 4, 5, 6, 7, 8, 9, 10] 0 4 (b := m 0) rfl rfl (As := [.int (nI q)]) (rest := []) (wr := ([] : va_W)) (wf := fun _ => (wM cy cz m M)) dX4_bucket_26 gX4_bucket_X4_manyIn rfl dmX4_manyIn ⟨rfl, rfl, Nat.le_of_ble_eq_true rfl, Nat.le_of_ble_eq_true rfl, Nat.zero_le _, Nat.zero_le _⟩ (c_X4_manyIn l D cy cz m M T.A q hy.1.1 h64) ⟨rfl, rfl, rfl, rfl, by decide, rfl, fun _ => rfl⟩ (Nat.le_of_ble_eq_true rfl) ?_
          rintro _ - rfl
          show G x l (rmF 3 108) D 3 0 0 (wM cy cz m M) [(0, .ref (m 0)), (1, .int (nI q)), (2, .int (nI kk))] [.int (nI (T.A.cnt q))] 29
          refine g_goto C (tgt := 50) dX4_bucket_29 (by decide) ?_
          exact ret _ M _ _ dX4_bucket_50 (⟨by rw [aBucket_in n64 hq (by omega), if_pos h0], hy⟩)
      · skip
        refine g_ldc C (v := (-2000000001)) mX4_bucket_k126 dX4_bucket_17 ?_
        exact ret _ M _ _ dX4_bucket_19 (⟨(aBucket_sw (sw_big (n := 2) (by decide) c3)).symm, hy⟩)

theorem mX4_ownerOf_k44 : Cond.constant RX4 44 (-2000000005) ∈ wsX4_ownerOf := List.mem_of_getElem? (i := 1) rfl
theorem mX4_ownerOf_f19 : Cond.fieldLink RX4 19 (TX4 3).1 (TX4 3).2.1 (TX4 3).2.2.1 ∈ wsX4_ownerOf := List.mem_of_getElem? (i := 2) rfl
theorem iX4_ownerOf_X4 : ∀ w ∈ wsX40, w ∈ wsX4_ownerOf := by decide +kernel
set_option maxHeartbeats 1600000 in
set_option maxRecDepth 20000 in
theorem c_X4_ownerOf (l : Launch) (D : va_G) (cy cz : ClassId) (m : Nat → Nat) (M : Mem) (A : AS) (p : Nat) (hr : RM A M) (hp : p < 128) : MId l yX4_ownerOf wsX4_ownerOf (rmF 2 72) D (tyL cy cz) [.ref (m 0), .int (nI p)] (wM cy cz m M) (ocI (A.own p)) (wM cy cz m M) := by
  refine g_entI (cc := cX4_ownerOf) (maxL := 4) (own := RX4) (by decide) rfl rfl (Nat.le_of_ble_eq_true rfl) (fun x C ret => ?_)
  show G x l (rmF 2 72) D 4 0 0 (wM cy cz m M) [(0, .ref (m 0)), (1, .int (nI p))] [] 0
  have n64 := hr.nb64
  refine g_iconst C (v := 0) dX4_ownerOf_0 (by decide) ?_
  refine g_istore_n C (lv' := [(2, .int 0), (0, .ref (m 0)), (1, .int (nI p))]) dX4_ownerOf_1 rfl (by decide) rfl ?_
  refine g_loop (σ := Nat) (fun (a : Nat) => match a with | b => (wM cy cz m M)) (fun (a : Nat) => match a with | b => [(2, .int (nI b)), (0, .ref (m 0)), (1, .int (nI p))]) (fun (a : Nat) => match a with | b => (b ≤ A.nb) ∧ (A.own p = ownF A.ch p (A.nb - b) b)) (fun (a : Nat) => match a with | b => A.nb - b) ?_ 0 (⟨Nat.zero_le _, rfl⟩)
  intro a hI ih
  obtain ⟨b, rfl⟩ : ∃ z, z = a := ⟨_, rfl⟩
  obtain ⟨i1, i3⟩ : (b ≤ A.nb) ∧ (A.own p = ownF A.ch p (A.nb - b) b) := hI
  show G x l (rmF 2 72) D 4 0 0 (wM cy cz m M) [(2, .int (nI b)), (0, .ref (m 0)), (1, .int (nI p))] [] 2
  refine g_iload_n C dX4_ownerOf_2 0 rfl rfl ?_
  refine g_aload_n C dX4_ownerOf_3 1 rfl rfl ?_
  refine g_callIV C [0, 1, 2, 3, 4, 5, 6, 7, 8, 9, 10] [] [0, 1, 2, 3, 4, 5, 6, 7, 8, 9, 10] 0 4 (b := m 0) rfl rfl (As := []) (rest := [.int (nI b)]) (wr := ([] : va_W)) (wf := fun _ => (wM cy cz m M)) dX4_ownerOf_4 gX4_ownerOf_X4_buckets rfl dmX4_buckets ⟨rfl, rfl, Nat.le_of_ble_eq_true rfl, Nat.le_of_ble_eq_true rfl, Nat.zero_le _, Nat.zero_le _⟩ (c_X4_buckets l D cy cz m M) ⟨rfl, rfl, rfl, rfl, by decide, rfl, fun _ => rfl⟩ (Nat.le_of_ble_eq_true rfl) ?_
  rintro _ - rfl
  show G x l (rmF 2 72) D 4 0 0 (wM cy cz m M) [(2, .int (nI b)), (0, .ref (m 0)), (1, .int (nI p))] [.int ((4 <<< (M 0 0 &&& 31)) + M 0 1), .int (nI b)] 7
  refine g_top (b := nI A.nb) (hr.nb) ?_
  refine g_icmp_ge C (tgt := 41) dX4_ownerOf_7 (by decide) (fun c1 => ?_) (fun c1 => ?_)
  · skip
    refine g_ldc C (v := vNONE) mX4_ownerOf_k44 dX4_ownerOf_41 ?_
    exact ret _ () _ _ dX4_ownerOf_43 (by rw [i3, show A.nb - b = 0 by have := (nI_leI (by omega) (by omega)).mp c1; omega]; rfl)
  · skip
    have hb : b < A.nb := Nat.lt_of_not_le (fun w => c1 (nI_le w (by omega)))
    have h64 : b < 64 := by omega
    refine g_iload_n C dX4_ownerOf_10 0 rfl rfl ?_
    refine g_istore_n C (lv' := [(3, .int (nI b)), (2, .int (nI b)), (0, .ref (m 0)), (1, .int (nI p))]) dX4_ownerOf_11 rfl (by decide) rfl ?_
    refine g_loop (σ := List Nat) (fun (a : List Nat) => match a with | r => (wM cy cz m M)) (fun (a : List Nat) => match a with | r => [(3, .int (hdI r)), (2, .int (nI b)), (0, .ref (m 0)), (1, .int (nI p))]) (fun (a : List Nat) => match a with | r => (isCh (M 4) r) ∧ (p ∈ A.ch b ↔ p ∈ r)) (fun (a : List Nat) => match a with | r => r.length) ?_ (A.ch b) (⟨hr.1.chain h64, Iff.rfl⟩)
    intro a hI ih2
    obtain ⟨r, rfl⟩ : ∃ z, z = a := ⟨_, rfl⟩
    obtain ⟨j1, j3⟩ : (isCh (M 4) r) ∧ (p ∈ A.ch b ↔ p ∈ r) := hI
    show G x l (rmF 2 72) D 4 0 0 (wM cy cz m M) [(3, .int (hdI r)), (2, .int (nI b)), (0, .ref (m 0)), (1, .int (nI p))] [] 12
    rcases r with _ | ⟨q, r⟩
    · skip
      have j2 : ¬ p ∈ A.ch b := fun w => by cases j3.mp w
      show G x l (rmF 2 72) D 4 0 0 (wM cy cz m M) [(3, .int vNONE), (2, .int (nI b)), (0, .ref (m 0)), (1, .int (nI p))] [] 12
      refine g_iload_n C dX4_ownerOf_12 0 rfl rfl ?_
      refine g_ldc C (v := vNONE) mX4_ownerOf_k44 dX4_ownerOf_13 ?_
      refine g_icmp_eq C (tgt := 35) dX4_ownerOf_15 (by decide) (fun c2 => ?_) (fun c2 => ?_)
      · skip
        refine g_iinc C (q := 1) (v := nI (b + 1)) (lv' := [(2, .int (nI (b + 1))), (3, .int vNONE), (0, .ref (m 0)), (1, .int (nI p))]) dX4_ownerOf_35 rfl (nI_1 b) (by decide) rfl ?_
        refine g_goto C (tgt := 2) dX4_ownerOf_38 (by decide) ?_
        refine g_lv (lv' := [(2, .int (nI (b + 1))), (0, .ref (m 0)), (1, .int (nI p))]) [0, 2, 3] rfl ?_
        exact ih (b + 1) ⟨by omega, by rw [i3]; exact ownF_miss hb j2⟩ (by show A.nb - (b + 1) < A.nb - b; omega)
      · skip
        exact absurd rfl (c2)
    · skip
      obtain ⟨hq, hn, j1⟩ := j1
      show G x l (rmF 2 72) D 4 0 0 (wM cy cz m M) [(3, .int (nI q)), (2, .int (nI b)), (0, .ref (m 0)), (1, .int (nI p))] [] 12
      refine g_iload_n C dX4_ownerOf_12 0 rfl rfl ?_
      refine g_ldc C (v := vNONE) mX4_ownerOf_k44 dX4_ownerOf_13 ?_
      refine g_icmp_eq C (tgt := 35) dX4_ownerOf_15 (by decide) (fun c2 => ?_) (fun c2 => ?_)
      · skip
        exact absurd c2 (NONE_nI (by omega))
      · skip
        refine g_iload_n C dX4_ownerOf_18 0 rfl rfl ?_
        refine g_iload_n C dX4_ownerOf_19 3 rfl rfl ?_
        refine g_icmp_ne C (tgt := 25) dX4_ownerOf_20 (by decide) (fun c3 => ?_) (fun c3 => ?_)
        · skip
          have h5 : ¬ q = p := fun w => c3 (by rw [w])
          refine g_aload_n C dX4_ownerOf_25 2 rfl rfl ?_
          refine g_get C 0 (f := 3) (v := .ref (m 4)) (Cn := RX4) (T := TX4) (N := 20) dX4_ownerOf_26 rfl rfl iX4_ownerOf_X4 (by decide) mX4_ownerOf_f19 rfl ?_
          refine g_iload_n C dX4_ownerOf_29 0 rfl rfl ?_
          refine g_iald C 4 0 (f := M 4) (N := 128) q dX4_ownerOf_30 rfl rfl (by decide) (rfl) (hq) ?_
          refine g_top (b := hdI r) (hn) ?_
          refine g_istore_n C (lv' := [(3, .int (hdI r)), (2, .int (nI b)), (0, .ref (m 0)), (1, .int (nI p))]) dX4_ownerOf_31 rfl (by decide) rfl ?_
          refine g_goto C (tgt := 12) dX4_ownerOf_32 (by decide) ?_
          exact ih2 r ⟨j1, j3.trans ⟨fun w => (List.mem_cons.mp w).resolve_left (fun e => h5 e.symm), fun w => List.mem_cons_of_mem _ w⟩⟩ (Nat.lt_succ_self _)
        · skip
          have h5 : q = p := (nI_eq (by omega) (by omega)).mp c3
          refine g_iload_n C dX4_ownerOf_23 1 rfl rfl ?_
          exact ret _ () _ _ dX4_ownerOf_24 (by rw [i3, ownF_hit hb (j3.mpr (by rw [h5]; exact List.mem_cons_self))]; rfl)

theorem mX4_page_k126 : Cond.constant RX4 126 (-2000000001) ∈ wsX4_page := List.mem_of_getElem? (i := 1) rfl
theorem mX4_page_f19 : Cond.fieldLink RX4 19 (TX4 3).1 (TX4 3).2.1 (TX4 3).2.2.1 ∈ wsX4_page := List.mem_of_getElem? (i := 3) rfl
theorem iX4_page_X4 : ∀ w ∈ wsX40, w ∈ wsX4_page := by decide +kernel
theorem mX4_page_f16 : Cond.fieldLink RX4 16 (TX4 2).1 (TX4 2).2.1 (TX4 2).2.2.1 ∈ wsX4_page := List.mem_of_getElem? (i := 2) rfl
set_option maxHeartbeats 1600000 in
set_option maxRecDepth 20000 in
theorem c_X4_page (l : Launch) (D : va_G) (cy cz : ClassId) (m : Nat → Nat) (M : Mem) (T : TS) (p : Int32) (what : Int32) (hy : RY T M) : MI l yX4_page wsX4_page (rmF 3 108) D (tyL cy cz) [.ref (m 0), .int p, .int what] (wM cy cz m M) (fun (r : Int32) (M1 : Mem) => r = aPage T.A p what ∧ RY T M1) (fun M1 => (wM cy cz m M1)) := by
  refine g_entI (cc := cX4_page) (maxL := 3) (own := RX4) (by decide) rfl rfl (Nat.le_of_ble_eq_true rfl) (fun x C ret => ?_)
  show G x l (rmF 3 108) D 3 0 0 (wM cy cz m M) [(0, .ref (m 0)), (1, .int p), (2, .int what)] [] 0
  refine g_iload_n C dX4_page_0 1 rfl rfl ?_
  refine g_callIS C [] [0, 1, 2, 3, 4, 5, 6, 7, 8, 9, 10] [0, 1, 2, 3, 4, 5, 6, 7, 8, 9, 10] (As := [.int p]) (rest := []) (wr := (wM cy cz m M)) (wf := fun _ => (wM cy cz m M)) dX4_page_1 gX4_page_X4_isPage rfl dmX4_isPage ⟨rfl, rfl, Nat.le_of_ble_eq_true rfl, Nat.le_of_ble_eq_true rfl, Nat.zero_le _, Nat.zero_le _⟩ (c_X4_isPage l D cy cz p) ⟨rfl, rfl, rfl, rfl, by decide, rfl, fun _ => rfl⟩ (Nat.le_of_ble_eq_true rfl) ?_
  rintro _ - rfl
  show G x l (rmF 3 108) D 3 0 0 (wM cy cz m M) [(0, .ref (m 0)), (1, .int p), (2, .int what)] [.int (inI 128 p)] 4
  refine g_if_eq C (tgt := 16) dX4_page_4 (by decide) (fun c1 => ?_) (fun c1 => ?_)
  · skip
    refine g_ldc C (v := (-2000000001)) mX4_page_k126 dX4_page_16 ?_
    exact ret _ M _ _ dX4_page_18 (⟨(aPage_out c1).symm, hy⟩)
  · skip
    obtain ⟨q, hq, rfl⟩ := inI_nat (N := 128) (by decide) c1
    show G x l (rmF 3 108) D 3 0 0 (wM cy cz m M) [(0, .ref (m 0)), (1, .int (nI q)), (2, .int what)] [] 7
    refine g_iload_n C dX4_page_7 2 rfl rfl ?_
    refine g_if_lt C (tgt := 16) dX4_page_8 (by decide) (fun c2 => ?_) (fun c2 => ?_)
    · skip
      refine g_ldc C (v := (-2000000001)) mX4_page_k126 dX4_page_16 ?_
      exact ret _ M _ _ dX4_page_18 (⟨(aPage_sw (sw_neg c2 2)).symm, hy⟩)
    · skip
      refine g_iload_n C dX4_page_11 2 rfl rfl ?_
      refine g_iconst C (v := 2) dX4_page_12 (by decide) ?_
      refine g_icmp_le C (tgt := 19) dX4_page_13 (by decide) (fun c3 => ?_) (fun c3 => ?_)
      · skip
        obtain ⟨kk, hkk, rfl⟩ := rng (n := 3) (by decide) c2 (Int32.lt_of_le_of_lt c3 (by decide))
        show G x l (rmF 3 108) D 3 0 0 (wM cy cz m M) [(0, .ref (m 0)), (1, .int (nI q)), (2, .int (nI kk))] [] 19
        refine g_iload_n C dX4_page_19 2 rfl rfl ?_
        refine g_if_ne C (tgt := 32) dX4_page_20 (by decide) (fun c4 => ?_) (fun c4 => ?_)
        · skip
          have h0 : ¬ kk = 0 := fun w => c4 (by rw [w]; rfl)
          refine g_iload_n C dX4_page_32 2 rfl rfl ?_
          refine g_iconst C (v := 1) dX4_page_33 (by decide) ?_
          refine g_icmp_ne C (tgt := 46) dX4_page_34 (by decide) (fun c5 => ?_) (fun c5 => ?_)
          · skip
            have h1 : ¬ kk = 1 := fun w => c5 (by rw [w]; rfl)
            refine g_aload_n C dX4_page_46 0 rfl rfl ?_
            refine g_iload_n C dX4_page_47 1 rfl rfl ?_
            refine g_callIV C [0, 1, 2, 3, 4, 5, 6, 7, 8, 9, 10] [] [0, 1, 2, 3, 4, 5, 6, 7, 8, 9, 10] 0 4 (b := m 0) rfl rfl (As := [.int (nI q)]) (rest := []) (wr := ([] : va_W)) (wf := fun _ => (wM cy cz m M)) dX4_page_48 gX4_page_X4_ownerOf rfl dmX4_ownerOf ⟨rfl, rfl, Nat.le_of_ble_eq_true rfl, Nat.le_of_ble_eq_true rfl, Nat.zero_le _, Nat.zero_le _⟩ (c_X4_ownerOf l D cy cz m M T.A q hy.1 hq) ⟨rfl, rfl, rfl, rfl, by decide, rfl, fun _ => rfl⟩ (Nat.le_of_ble_eq_true rfl) ?_
            rintro _ - rfl
            show G x l (rmF 3 108) D 3 0 0 (wM cy cz m M) [(0, .ref (m 0)), (1, .int (nI q)), (2, .int (nI kk))] [.int (ocI (T.A.own q))] 51
            exact ret _ M _ _ dX4_page_51 (⟨by rw [aPage_in hq (by omega), if_neg h0, if_neg h1, if_pos (by omega)], hy⟩)
          · skip
            have h1 : kk = 1 := (nI_eq (b := 1) (by omega) (by decide)).mp c5
            refine g_aload_n C dX4_page_37 0 rfl rfl ?_
            refine g_get C 0 (f := 3) (v := .ref (m 4)) (Cn := RX4) (T := TX4) (N := 20) dX4_page_38 rfl rfl iX4_page_X4 (by decide) mX4_page_f19 rfl ?_
            refine g_iload_n C dX4_page_41 1 rfl rfl ?_
            refine g_iald C 4 0 (f := M 4) (N := 128) q dX4_page_42 rfl rfl (by decide) (rfl) (hq) ?_
            refine g_top (b := T.A.lk q) (hy.1.1.lk hq) ?_
            refine g_goto C (tgt := 51) dX4_page_43 (by decide) ?_
            exact ret _ M _ _ dX4_page_51 (⟨by rw [aPage_in hq (by omega), if_neg h0, if_pos h1], hy⟩)
        · skip
          have h0 : kk = 0 := (nI_eq (b := 0) (by omega) (by decide)).mp c4
          refine g_aload_n C dX4_page_23 0 rfl rfl ?_
          refine g_get C 0 (f := 2) (v := .ref (m 3)) (Cn := RX4) (T := TX4) (N := 20) dX4_page_24 rfl rfl iX4_page_X4 (by decide) mX4_page_f16 rfl ?_
          refine g_iload_n C dX4_page_27 1 rfl rfl ?_
          refine g_iald C 3 0 (f := M 3) (N := 128) q dX4_page_28 rfl rfl (by decide) (rfl) (hq) ?_
          refine g_top (b := nI (T.A.sz q)) (hy.1.1.used hq) ?_
          refine g_goto C (tgt := 51) dX4_page_29 (by decide) ?_
          exact ret _ M _ _ dX4_page_51 (⟨by rw [aPage_in hq (by omega), if_pos h0], hy⟩)
      · skip
        refine g_ldc C (v := (-2000000001)) mX4_page_k126 dX4_page_16 ?_
        exact ret _ M _ _ dX4_page_18 (⟨(aPage_sw (sw_big (n := 2) (by decide) c3)).symm, hy⟩)

theorem mX4_cell_k126 : Cond.constant RX4 126 (-2000000001) ∈ wsX4_cell := List.mem_of_getElem? (i := 1) rfl
theorem mX4_cell_f16 : Cond.fieldLink RX4 16 (TX4 2).1 (TX4 2).2.1 (TX4 2).2.2.1 ∈ wsX4_cell := List.mem_of_getElem? (i := 2) rfl
theorem iX4_cell_X4 : ∀ w ∈ wsX40, w ∈ wsX4_cell := by decide +kernel
theorem mX4_cell_f13 : Cond.fieldLink RX4 13 (TX4 1).1 (TX4 1).2.1 (TX4 1).2.2.1 ∈ wsX4_cell := List.mem_of_getElem? (i := 5) rfl
theorem mX4_cell_f7 : Cond.fieldLink RX4 7 (TX4 0).1 (TX4 0).2.1 (TX4 0).2.2.1 ∈ wsX4_cell := List.mem_of_getElem? (i := 4) rfl
theorem mX4_cell_k139 : Cond.constant RX4 139 (-2000000002) ∈ wsX4_cell := List.mem_of_getElem? (i := 3) rfl
set_option maxHeartbeats 1600000 in
set_option maxRecDepth 20000 in
theorem c_X4_cell (l : Launch) (D : va_G) (cy cz : ClassId) (m : Nat → Nat) (M : Mem) (T : TS) (p : Int32) (i : Int32) (what : Int32) (hy : RY T M) : MI l yX4_cell wsX4_cell (rmF 1 36) D (tyL cy cz) [.ref (m 0), .int p, .int i, .int what] (wM cy cz m M) (fun (r : Int32) (M1 : Mem) => r = aCell T.A p i what ∧ RY T M1) (fun M1 => (wM cy cz m M1)) := by
  refine g_entI (cc := cX4_cell) (maxL := 4) (own := RX4) (by decide) rfl rfl (Nat.le_of_ble_eq_true rfl) (fun x C ret => ?_)
  show G x l (rmF 1 36) D 4 0 0 (wM cy cz m M) [(0, .ref (m 0)), (1, .int p), (2, .int i), (3, .int what)] [] 0
  refine g_iload_n C dX4_cell_0 1 rfl rfl ?_
  refine g_callIS C [] [0, 1, 2, 3, 4, 5, 6, 7, 8, 9, 10] [0, 1, 2, 3, 4, 5, 6, 7, 8, 9, 10] (As := [.int p]) (rest := []) (wr := (wM cy cz m M)) (wf := fun _ => (wM cy cz m M)) dX4_cell_1 gX4_cell_X4_isPage rfl dmX4_isPage ⟨rfl, rfl, Nat.le_of_ble_eq_true rfl, Nat.le_of_ble_eq_true rfl, Nat.zero_le _, Nat.zero_le _⟩ (c_X4_isPage l D cy cz p) ⟨rfl, rfl, rfl, rfl, by decide, rfl, fun _ => rfl⟩ (Nat.le_of_ble_eq_true rfl) ?_
  rintro _ - rfl
  show G x l (rmF 1 36) D 4 0 0 (wM cy cz m M) [(0, .ref (m 0)), (1, .int p), (2, .int i), (3, .int what)] [.int (inI 128 p)] 4
  refine g_if_eq C (tgt := 25) dX4_cell_4 (by decide) (fun c1 => ?_) (fun c1 => ?_)
  · skip
    refine g_ldc C (v := (-2000000001)) mX4_cell_k126 dX4_cell_25 ?_
    exact ret _ M _ _ dX4_cell_27 (⟨(aCell_bad (Or.inl c1)).symm, hy⟩)
  · skip
    refine g_iload_n C dX4_cell_7 2 rfl rfl ?_
    refine g_if_lt C (tgt := 25) dX4_cell_8 (by decide) (fun c2 => ?_) (fun c2 => ?_)
    · skip
      refine g_ldc C (v := (-2000000001)) mX4_cell_k126 dX4_cell_25 ?_
      exact ret _ M _ _ dX4_cell_27 (⟨(aCell_bad (Or.inr (Or.inl c2))).symm, hy⟩)
    · skip
      refine g_iload_n C dX4_cell_11 2 rfl rfl ?_
      refine g_iconst C (v := 4) dX4_cell_12 (by decide) ?_
      refine g_icmp_ge C (tgt := 25) dX4_cell_13 (by decide) (fun c3 => ?_) (fun c3 => ?_)
      · skip
        refine g_ldc C (v := (-2000000001)) mX4_cell_k126 dX4_cell_25 ?_
        exact ret _ M _ _ dX4_cell_27 (⟨(aCell_bad (Or.inr (Or.inr (Or.inl c3)))).symm, hy⟩)
      · skip
        refine g_iload_n C dX4_cell_16 3 rfl rfl ?_
        refine g_if_lt C (tgt := 25) dX4_cell_17 (by decide) (fun c4 => ?_) (fun c4 => ?_)
        · skip
          refine g_ldc C (v := (-2000000001)) mX4_cell_k126 dX4_cell_25 ?_
          exact ret _ M _ _ dX4_cell_27 (⟨(aCell_bad (Or.inr (Or.inr (Or.inr (Or.inl c4))))).symm, hy⟩)
        · skip
          refine g_iload_n C dX4_cell_20 3 rfl rfl ?_
          refine g_iconst C (v := 1) dX4_cell_21 (by decide) ?_
          refine g_icmp_le C (tgt := 28) dX4_cell_22 (by decide) (fun c5 => ?_) (fun c5 => ?_)
          · skip
            obtain ⟨q, hq, rfl⟩ := inI_nat (N := 128) (by decide) c1
            obtain ⟨ii, hii, rfl⟩ := rng (n := 4) (by decide) c2 (Int32.not_le.mp c3)
            obtain ⟨kk, hkk, rfl⟩ := rng (n := 2) (by decide) c4 (Int32.lt_of_le_of_lt c5 (by decide))
            show G x l (rmF 1 36) D 4 0 0 (wM cy cz m M) [(0, .ref (m 0)), (1, .int (nI q)), (2, .int (nI ii)), (3, .int (nI kk))] [] 28
            refine g_iload_n C dX4_cell_28 2 rfl rfl ?_
            refine g_aload_n C dX4_cell_29 0 rfl rfl ?_
            refine g_get C 0 (f := 2) (v := .ref (m 3)) (Cn := RX4) (T := TX4) (N := 20) dX4_cell_30 rfl rfl iX4_cell_X4 (by decide) mX4_cell_f16 rfl ?_
            refine g_iload_n C dX4_cell_33 1 rfl rfl ?_
            refine g_iald C 3 0 (f := M 3) (N := 128) q dX4_cell_34 rfl rfl (by decide) (rfl) (hq) ?_
            refine g_top (b := nI (T.A.sz q)) (hy.1.1.used hq) ?_
            refine g_icmp_lt C (tgt := 41) dX4_cell_35 (by decide) (fun c6 => ?_) (fun c6 => ?_)
            · skip
              have hz := hy.1.1.sz4 hq
              have h6 : ii < T.A.sz q := (nI_ltI (by omega) (by omega)).mp c6
              refine g_iload_n C dX4_cell_41 3 rfl rfl ?_
              refine g_if_ne C (tgt := 58) dX4_cell_42 (by decide) (fun c7 => ?_) (fun c7 => ?_)
              · skip
                have h7 : ¬ kk = 0 := fun w => c7 (by rw [w]; rfl)
                refine g_aload_n C dX4_cell_58 0 rfl rfl ?_
                refine g_get C 0 (f := 1) (v := .ref (m 2)) (Cn := RX4) (T := TX4) (N := 20) dX4_cell_59 rfl rfl iX4_cell_X4 (by decide) mX4_cell_f13 rfl ?_
                refine g_iconst C (v := 4) dX4_cell_62 (by decide) ?_
                refine g_iload_n C dX4_cell_63 1 rfl rfl ?_
                refine g_imul C dX4_cell_64 ?_
                refine g_top (b := nI (q * 4)) (mul4 q) ?_
                refine g_iload_n C dX4_cell_65 2 rfl rfl ?_
                refine g_iadd C dX4_cell_66 ?_
                refine g_top (b := nI (q * 4 + ii)) (nI_add _ _) ?_
                refine g_iald C 2 0 (f := M 2) (N := 512) (q * 4 + ii) dX4_cell_67 rfl rfl (by decide) (rfl) (by omega) ?_
                refine g_top (b := T.A.vs (q * 4 + ii)) (hy.1.1.val hq h6) ?_
                exact ret _ M _ _ dX4_cell_68 (⟨by rw [aCell_in hq hii (by omega), if_pos h6, if_neg h7], hy⟩)
              · skip
                have h7 : kk = 0 := (nI_eq (b := 0) (by omega) (by decide)).mp c7
                refine g_aload_n C dX4_cell_45 0 rfl rfl ?_
                refine g_get C 0 (f := 0) (v := .ref (m 1)) (Cn := RX4) (T := TX4) (N := 20) dX4_cell_46 rfl rfl iX4_cell_X4 (by decide) mX4_cell_f7 rfl ?_
                refine g_iconst C (v := 4) dX4_cell_49 (by decide) ?_
                refine g_iload_n C dX4_cell_50 1 rfl rfl ?_
                refine g_imul C dX4_cell_51 ?_
                refine g_top (b := nI (q * 4)) (mul4 q) ?_
                refine g_iload_n C dX4_cell_52 2 rfl rfl ?_
                refine g_iadd C dX4_cell_53 ?_
                refine g_top (b := nI (q * 4 + ii)) (nI_add _ _) ?_
                refine g_iald C 1 0 (f := M 1) (N := 512) (q * 4 + ii) dX4_cell_54 rfl rfl (by decide) (rfl) (by omega) ?_
                refine g_top (b := T.A.ks (q * 4 + ii)) (hy.1.1.key hq h6) ?_
                refine g_goto C (tgt := 68) dX4_cell_55 (by decide) ?_
                exact ret _ M _ _ dX4_cell_68 (⟨by rw [aCell_in hq hii (by omega), if_pos h6, if_pos h7], hy⟩)
            · skip
              have hz := hy.1.1.sz4 hq
              have h6 : ¬ ii < T.A.sz q := fun w => c6 (nI_lt w (by omega))
              refine g_ldc C (v := (-2000000002)) mX4_cell_k139 dX4_cell_38 ?_
              exact ret _ M _ _ dX4_cell_40 (⟨by rw [aCell_in hq hii (by omega), if_neg h6], hy⟩)
          · skip
            refine g_ldc C (v := (-2000000001)) mX4_cell_k126 dX4_cell_25 ?_
            exact ret _ M _ _ dX4_cell_27 (⟨(aCell_bad (Or.inr (Or.inr (Or.inr (Or.inr (Int32.not_le.mp c5)))))).symm, hy⟩)

theorem mX4_entry_k44 : Cond.constant RX4 44 (-2000000005) ∈ wsX4_entry := List.mem_of_getElem? (i := 2) rfl
theorem mX4_entry_f16 : Cond.fieldLink RX4 16 (TX4 2).1 (TX4 2).2.1 (TX4 2).2.2.1 ∈ wsX4_entry := List.mem_of_getElem? (i := 3) rfl
theorem iX4_entry_X4 : ∀ w ∈ wsX40, w ∈ wsX4_entry := by decide +kernel
theorem mX4_entry_f19 : Cond.fieldLink RX4 19 (TX4 3).1 (TX4 3).2.1 (TX4 3).2.2.1 ∈ wsX4_entry := List.mem_of_getElem? (i := 5) rfl
theorem mX4_entry_f13 : Cond.fieldLink RX4 13 (TX4 1).1 (TX4 1).2.1 (TX4 1).2.2.1 ∈ wsX4_entry := List.mem_of_getElem? (i := 4) rfl
theorem mX4_entry_k126 : Cond.constant RX4 126 (-2000000001) ∈ wsX4_entry := List.mem_of_getElem? (i := 1) rfl
set_option maxHeartbeats 1600000 in
set_option maxRecDepth 20000 in
theorem c_X4_entry (l : Launch) (D : va_G) (cy cz : ClassId) (m : Nat → Nat) (M : Mem) (T : TS) (i : Int32) (hy : RY T M) : MI l yX4_entry wsX4_entry (rmF 2 72) D (tyL cy cz) [.ref (m 0), .int i] (wM cy cz m M) (fun (r : Int32) (M1 : Mem) => r = aEntry T.A i ∧ RY T M1) (fun M1 => (wM cy cz m M1)) := by
  refine g_entI (cc := cX4_entry) (maxL := 5) (own := RX4) (by decide) rfl rfl (Nat.le_of_ble_eq_true rfl) (fun x C ret => ?_)
  show G x l (rmF 2 72) D 5 0 0 (wM cy cz m M) [(0, .ref (m 0)), (1, .int i)] [] 0
  refine g_iload_n C dX4_entry_0 1 rfl rfl ?_
  refine g_if_ge C (tgt := 7) dX4_entry_1 (by decide) (fun c0 => ?_) (fun c0 => ?_)
  · skip
    obtain ⟨kk, hkk, rfl⟩ := nI_of (x := i) (Int32.not_lt.mpr c0)
    show G x l (rmF 2 72) D 5 0 0 (wM cy cz m M) [(0, .ref (m 0)), (1, .int (nI kk))] [] 7
    refine g_iload_n C dX4_entry_7 1 rfl rfl ?_
    refine g_istore_n C (lv' := [(2, .int (nI kk)), (0, .ref (m 0)), (1, .int (nI kk))]) dX4_entry_8 rfl (by decide) rfl ?_
    refine g_iconst C (v := 0) dX4_entry_9 (by decide) ?_
    refine g_istore_n C (lv' := [(3, .int 0), (2, .int (nI kk)), (0, .ref (m 0)), (1, .int (nI kk))]) dX4_entry_10 rfl (by decide) rfl ?_
    refine g_lv (lv' := [(2, .int (nI kk)), (3, .int 0), (0, .ref (m 0)), (1, .int (nI kk))]) [1, 0, 2, 3] rfl ?_
    refine g_loop (σ := Nat × Nat) (fun (a : Nat × Nat) => match a with | (b, n) => (wM cy cz m M)) (fun (a : Nat × Nat) => match a with | (b, n) => [(2, .int (nI n)), (3, .int (nI b)), (0, .ref (m 0)), (1, .int (nI kk))]) (fun (a : Nat × Nat) => match a with | (b, n) => (b ≤ T.A.nb) ∧ (n < 2 ^ 31) ∧ (T.A.ent kk = entL T.A.sz (pgF T.A.ch (T.A.nb - b) b) n)) (fun (a : Nat × Nat) => match a with | (b, n) => T.A.nb - b) ?_ (0, kk) (⟨Nat.zero_le _, hkk, rfl⟩)
    intro a hI ih
    obtain ⟨b, n⟩ := a
    obtain ⟨i1, i2, i3⟩ : (b ≤ T.A.nb) ∧ (n < 2 ^ 31) ∧ (T.A.ent kk = entL T.A.sz (pgF T.A.ch (T.A.nb - b) b) n) := hI
    show G x l (rmF 2 72) D 5 0 0 (wM cy cz m M) [(2, .int (nI n)), (3, .int (nI b)), (0, .ref (m 0)), (1, .int (nI kk))] [] 11
    refine g_iload_n C dX4_entry_11 1 rfl rfl ?_
    refine g_aload_n C dX4_entry_12 2 rfl rfl ?_
    refine g_callIV C [0, 1, 2, 3, 4, 5, 6, 7, 8, 9, 10] [] [0, 1, 2, 3, 4, 5, 6, 7, 8, 9, 10] 0 4 (b := m 0) rfl rfl (As := []) (rest := [.int (nI b)]) (wr := ([] : va_W)) (wf := fun _ => (wM cy cz m M)) dX4_entry_13 gX4_entry_X4_buckets rfl dmX4_buckets ⟨rfl, rfl, Nat.le_of_ble_eq_true rfl, Nat.le_of_ble_eq_true rfl, Nat.zero_le _, Nat.zero_le _⟩ (c_X4_buckets l D cy cz m M) ⟨rfl, rfl, rfl, rfl, by decide, rfl, fun _ => rfl⟩ (Nat.le_of_ble_eq_true rfl) ?_
    rintro _ - rfl
    show G x l (rmF 2 72) D 5 0 0 (wM cy cz m M) [(2, .int (nI n)), (3, .int (nI b)), (0, .ref (m 0)), (1, .int (nI kk))] [.int ((4 <<< (M 0 0 &&& 31)) + M 0 1), .int (nI b)] 16
    refine g_top (b := nI T.A.nb) (hy.1.nb) ?_
    refine g_icmp_ge C (tgt := 80) dX4_entry_16 (by decide) (fun c1b => ?_) (fun c1b => ?_)
    · skip
      refine g_ldc C (v := vNONE) mX4_entry_k44 dX4_entry_80 ?_
      exact ret _ M _ _ dX4_entry_82 (⟨by rw [aEntry_in hkk, i3, show T.A.nb - b = 0 by have := (nI_leI (by have := hy.1.nb64; omega) (by have := hy.1.nb64; omega)).mp c1b; omega]; rfl, hy⟩)
    · skip
      have hb : b < T.A.nb := Nat.lt_of_not_le (fun w => c1b (nI_le w (by have := hy.1.nb64; omega)))
      have h64 : b < 64 := by have := hy.1.nb64; omega
      refine g_iload_n C dX4_entry_19 1 rfl rfl ?_
      refine g_istore C (lv' := [(4, .int (nI b)), (2, .int (nI n)), (3, .int (nI b)), (0, .ref (m 0)), (1, .int (nI kk))]) dX4_entry_20 (by decide) rfl ?_
      refine g_lv (lv' := [(2, .int (nI n)), (4, .int (nI b)), (3, .int (nI b)), (0, .ref (m 0)), (1, .int (nI kk))]) [1, 0, 2, 3, 4] rfl ?_
      refine g_loop (σ := List Nat × Nat) (fun (a : List Nat × Nat) => match a with | (r, e) => (wM cy cz m M)) (fun (a : List Nat × Nat) => match a with | (r, e) => [(2, .int (nI e)), (4, .int (hdI r)), (3, .int (nI b)), (0, .ref (m 0)), (1, .int (nI kk))]) (fun (a : List Nat × Nat) => match a with | (r, e) => (isCh (M 4) r) ∧ (e < 2 ^ 31) ∧ (T.A.ent kk = entL T.A.sz (r ++ pgF T.A.ch (T.A.nb - (b + 1)) (b + 1)) e)) (fun (a : List Nat × Nat) => match a with | (r, e) => r.length) ?_ (T.A.ch b, n) (⟨hy.1.1.chain h64, i2, by rw [i3, pgF_step hb]⟩)
      intro a hI ih2
      obtain ⟨r, e⟩ := a
      obtain ⟨j1, j2, j3⟩ : (isCh (M 4) r) ∧ (e < 2 ^ 31) ∧ (T.A.ent kk = entL T.A.sz (r ++ pgF T.A.ch (T.A.nb - (b + 1)) (b + 1)) e) := hI
      show G x l (rmF 2 72) D 5 0 0 (wM cy cz m M) [(2, .int (nI e)), (4, .int (hdI r)), (3, .int (nI b)), (0, .ref (m 0)), (1, .int (nI kk))] [] 22
      rcases r with _ | ⟨q, r⟩
      · skip
        show G x l (rmF 2 72) D 5 0 0 (wM cy cz m M) [(2, .int (nI e)), (4, .int vNONE), (3, .int (nI b)), (0, .ref (m 0)), (1, .int (nI kk))] [] 22
        refine g_iload C dX4_entry_22 1 rfl ?_
        refine g_ldc C (v := vNONE) mX4_entry_k44 dX4_entry_24 ?_
        refine g_icmp_eq C (tgt := 74) dX4_entry_26 (by decide) (fun c2 => ?_) (fun c2 => ?_)
        · skip
          refine g_iinc C (q := 2) (v := nI (b + 1)) (lv' := [(3, .int (nI (b + 1))), (2, .int (nI e)), (4, .int vNONE), (0, .ref (m 0)), (1, .int (nI kk))]) dX4_entry_74 rfl (nI_1 b) (by decide) rfl ?_
          refine g_goto C (tgt := 11) dX4_entry_77 (by decide) ?_
          refine g_lv (lv' := [(2, .int (nI e)), (3, .int (nI (b + 1))), (0, .ref (m 0)), (1, .int (nI kk))]) [1, 0, 3, 4] rfl ?_
          exact ih (b + 1, e) ⟨by omega, j2, j3⟩ (by show T.A.nb - (b + 1) < T.A.nb - b; omega)
        · skip
          exact absurd rfl (c2)
      · skip
        obtain ⟨hq, hn, j1⟩ := j1
        have j3 : T.A.ent kk = if e < T.A.sz q then some (q * 4 + e) else entL T.A.sz (r ++ pgF T.A.ch (T.A.nb - (b + 1)) (b + 1)) (e - T.A.sz q) := j3
        have hz := hy.1.1.sz4 hq
        show G x l (rmF 2 72) D 5 0 0 (wM cy cz m M) [(2, .int (nI e)), (4, .int (nI q)), (3, .int (nI b)), (0, .ref (m 0)), (1, .int (nI kk))] [] 22
        refine g_iload C dX4_entry_22 1 rfl ?_
        refine g_ldc C (v := vNONE) mX4_entry_k44 dX4_entry_24 ?_
        refine g_icmp_eq C (tgt := 74) dX4_entry_26 (by decide) (fun c2 => ?_) (fun c2 => ?_)
        · skip
          exact absurd c2 (NONE_nI (by omega))
        · skip
          refine g_iload_n C dX4_entry_29 0 rfl rfl ?_
          refine g_aload_n C dX4_entry_30 3 rfl rfl ?_
          refine g_get C 0 (f := 2) (v := .ref (m 3)) (Cn := RX4) (T := TX4) (N := 20) dX4_entry_31 rfl rfl iX4_entry_X4 (by decide) mX4_entry_f16 rfl ?_
          refine g_iload C dX4_entry_34 1 rfl ?_
          refine g_iald C 3 0 (f := M 3) (N := 128) q dX4_entry_36 rfl rfl (by decide) (rfl) (hq) ?_
          refine g_top (b := nI (T.A.sz q)) (hy.1.1.used hq) ?_
          refine g_icmp_ge C (tgt := 52) dX4_entry_37 (by decide) (fun c4 => ?_) (fun c4 => ?_)
          · skip
            have h3 : T.A.sz q ≤ e := (nI_leI (by omega) (by omega)).mp c4
            refine g_iload_n C dX4_entry_52 0 rfl rfl ?_
            refine g_aload_n C dX4_entry_53 3 rfl rfl ?_
            refine g_get C 0 (f := 2) (v := .ref (m 3)) (Cn := RX4) (T := TX4) (N := 20) dX4_entry_54 rfl rfl iX4_entry_X4 (by decide) mX4_entry_f16 rfl ?_
            refine g_iload C dX4_entry_57 1 rfl ?_
            refine g_iald C 3 0 (f := M 3) (N := 128) q dX4_entry_59 rfl rfl (by decide) (rfl) (hq) ?_
            refine g_top (b := nI (T.A.sz q)) (hy.1.1.used hq) ?_
            refine g_isub C dX4_entry_60 ?_
            refine g_top (b := nI (e - T.A.sz q)) (pk_sub h3) ?_
            refine g_istore_n C (lv' := [(2, .int (nI (e - T.A.sz q))), (4, .int (nI q)), (3, .int (nI b)), (0, .ref (m 0)), (1, .int (nI kk))]) dX4_entry_61 rfl (by decide) rfl ?_
            refine g_aload_n C dX4_entry_62 3 rfl rfl ?_
            refine g_get C 0 (f := 3) (v := .ref (m 4)) (Cn := RX4) (T := TX4) (N := 20) dX4_entry_63 rfl rfl iX4_entry_X4 (by decide) mX4_entry_f19 rfl ?_
            refine g_iload C dX4_entry_66 1 rfl ?_
            refine g_iald C 4 0 (f := M 4) (N := 128) q dX4_entry_68 rfl rfl (by decide) (rfl) (hq) ?_
            refine g_top (b := hdI r) (hn) ?_
            refine g_istore C (lv' := [(4, .int (hdI r)), (2, .int (nI (e - T.A.sz q))), (3, .int (nI b)), (0, .ref (m 0)), (1, .int (nI kk))]) dX4_entry_69 (by decide) rfl ?_
            refine g_goto C (tgt := 22) dX4_entry_71 (by decide) ?_
            refine g_lv (lv' := [(2, .int (nI (e - T.A.sz q))), (4, .int (hdI r)), (3, .int (nI b)), (0, .ref (m 0)), (1, .int (nI kk))]) [1, 0, 2, 3, 4] rfl ?_
            exact ih2 (r, e - T.A.sz q) ⟨j1, by omega, by rw [j3, if_neg (by omega)]⟩ (Nat.lt_succ_self _)
          · skip
            have h3 : e < T.A.sz q := Nat.lt_of_not_le (fun w => c4 (nI_le w (by omega)))
            refine g_aload_n C dX4_entry_40 3 rfl rfl ?_
            refine g_get C 0 (f := 1) (v := .ref (m 2)) (Cn := RX4) (T := TX4) (N := 20) dX4_entry_41 rfl rfl iX4_entry_X4 (by decide) mX4_entry_f13 rfl ?_
            refine g_iconst C (v := 4) dX4_entry_44 (by decide) ?_
            refine g_iload C dX4_entry_45 1 rfl ?_
            refine g_imul C dX4_entry_47 ?_
            refine g_top (b := nI (q * 4)) (mul4 q) ?_
            refine g_iload_n C dX4_entry_48 0 rfl rfl ?_
            refine g_iadd C dX4_entry_49 ?_
            refine g_top (b := nI (q * 4 + e)) (nI_add _ _) ?_
            refine g_iald C 2 0 (f := M 2) (N := 512) (q * 4 + e) dX4_entry_50 rfl rfl (by decide) (rfl) (by omega) ?_
            refine g_top (b := T.A.vs (q * 4 + e)) (hy.1.1.val hq h3) ?_
            exact ret _ M _ _ dX4_entry_51 (⟨by rw [aEntry_in hkk, j3, if_pos h3], hy⟩)
  · skip
    refine g_ldc C (v := (-2000000001)) mX4_entry_k126 dX4_entry_4 ?_
    exact ret _ M _ _ dX4_entry_6 (⟨(aEntry_bad c0).symm, hy⟩)

theorem mX4_effort_k44 : Cond.constant RX4 44 (-2000000005) ∈ wsX4_effort := List.mem_of_getElem? (i := 1) rfl
theorem mX4_effort_f16 : Cond.fieldLink RX4 16 (TX4 2).1 (TX4 2).2.1 (TX4 2).2.2.1 ∈ wsX4_effort := List.mem_of_getElem? (i := 2) rfl
theorem iX4_effort_X4 : ∀ w ∈ wsX40, w ∈ wsX4_effort := by decide +kernel
theorem mX4_effort_f19 : Cond.fieldLink RX4 19 (TX4 3).1 (TX4 3).2.1 (TX4 3).2.2.1 ∈ wsX4_effort := List.mem_of_getElem? (i := 3) rfl
set_option maxHeartbeats 1600000 in
set_option maxRecDepth 20000 in
theorem c_X4_effort (l : Launch) (D : va_G) (cy cz : ClassId) (m : Nat → Nat) (M : Mem) (T : TS) (hy : RY T M) : MI l yX4_effort wsX4_effort (rmF 2 72) D (tyL cy cz) [.ref (m 0)] (wM cy cz m M) (fun (r : Int32) (M1 : Mem) => r = nI T.A.eff ∧ RY T M1) (fun M1 => (wM cy cz m M1)) := by
  refine g_entI (cc := cX4_effort) (maxL := 5) (own := RX4) (by decide) rfl rfl (Nat.le_of_ble_eq_true rfl) (fun x C ret => ?_)
  show G x l (rmF 2 72) D 5 0 0 (wM cy cz m M) [(0, .ref (m 0))] [] 0
  refine g_iconst C (v := 0) dX4_effort_0 (by decide) ?_
  refine g_istore_n C (lv' := [(1, .int 0), (0, .ref (m 0))]) dX4_effort_1 rfl (by decide) rfl ?_
  refine g_iconst C (v := 0) dX4_effort_2 (by decide) ?_
  refine g_istore_n C (lv' := [(2, .int 0), (1, .int 0), (0, .ref (m 0))]) dX4_effort_3 rfl (by decide) rfl ?_
  refine g_lv (lv' := [(1, .int 0), (2, .int 0), (0, .ref (m 0))]) [1, 0, 2] rfl ?_
  refine g_loop (σ := Nat × Nat) (fun (a : Nat × Nat) => match a with | (b, n) => (wM cy cz m M)) (fun (a : Nat × Nat) => match a with | (b, n) => [(1, .int (nI n)), (2, .int (nI b)), (0, .ref (m 0))]) (fun (a : Nat × Nat) => match a with | (b, n) => (b ≤ T.A.nb) ∧ (T.A.eff = n + smF (fun b => effL T.A.sz 1 (T.A.ch b)) (T.A.nb - b) b)) (fun (a : Nat × Nat) => match a with | (b, n) => T.A.nb - b) ?_ (0, 0) (⟨Nat.zero_le _, (Nat.zero_add _).symm⟩)
  intro a hI ih
  obtain ⟨b, n⟩ := a
  obtain ⟨i1, i3⟩ : (b ≤ T.A.nb) ∧ (T.A.eff = n + smF (fun b => effL T.A.sz 1 (T.A.ch b)) (T.A.nb - b) b) := hI
  show G x l (rmF 2 72) D 5 0 0 (wM cy cz m M) [(1, .int (nI n)), (2, .int (nI b)), (0, .ref (m 0))] [] 4
  refine g_iload_n C dX4_effort_4 1 rfl rfl ?_
  refine g_aload_n C dX4_effort_5 2 rfl rfl ?_
  refine g_callIV C [0, 1, 2, 3, 4, 5, 6, 7, 8, 9, 10] [] [0, 1, 2, 3, 4, 5, 6, 7, 8, 9, 10] 0 4 (b := m 0) rfl rfl (As := []) (rest := [.int (nI b)]) (wr := ([] : va_W)) (wf := fun _ => (wM cy cz m M)) dX4_effort_6 gX4_effort_X4_buckets rfl dmX4_buckets ⟨rfl, rfl, Nat.le_of_ble_eq_true rfl, Nat.le_of_ble_eq_true rfl, Nat.zero_le _, Nat.zero_le _⟩ (c_X4_buckets l D cy cz m M) ⟨rfl, rfl, rfl, rfl, by decide, rfl, fun _ => rfl⟩ (Nat.le_of_ble_eq_true rfl) ?_
  rintro _ - rfl
  show G x l (rmF 2 72) D 5 0 0 (wM cy cz m M) [(1, .int (nI n)), (2, .int (nI b)), (0, .ref (m 0))] [.int ((4 <<< (M 0 0 &&& 31)) + M 0 1), .int (nI b)] 9
  refine g_top (b := nI T.A.nb) (hy.1.nb) ?_
  refine g_icmp_ge C (tgt := 57) dX4_effort_9 (by decide) (fun c1b => ?_) (fun c1b => ?_)
  · skip
    refine g_iload_n C dX4_effort_57 0 rfl rfl ?_
    exact ret _ M _ _ dX4_effort_58 (⟨by rw [i3, show T.A.nb - b = 0 by have := (nI_leI (by have := hy.1.nb64; omega) (by have := hy.1.nb64; omega)).mp c1b; omega]; rfl, hy⟩)
  · skip
    have hb : b < T.A.nb := Nat.lt_of_not_le (fun w => c1b (nI_le w (by have := hy.1.nb64; omega)))
    have h64 : b < 64 := by have := hy.1.nb64; omega
    refine g_iconst C (v := 0) dX4_effort_12 (by decide) ?_
    refine g_istore_n C (lv' := [(3, .int 0), (1, .int (nI n)), (2, .int (nI b)), (0, .ref (m 0))]) dX4_effort_13 rfl (by decide) rfl ?_
    refine g_iload_n C dX4_effort_14 2 rfl rfl ?_
    refine g_istore C (lv' := [(4, .int (nI b)), (3, .int 0), (1, .int (nI n)), (2, .int (nI b)), (0, .ref (m 0))]) dX4_effort_15 (by decide) rfl ?_
    refine g_lv (lv' := [(1, .int (nI n)), (3, .int 0), (4, .int (nI b)), (2, .int (nI b)), (0, .ref (m 0))]) [2, 1, 0, 3, 4] rfl ?_
    refine g_loop (σ := List Nat × Nat × Nat) (fun (a : List Nat × Nat × Nat) => match a with | (r, k, e) => (wM cy cz m M)) (fun (a : List Nat × Nat × Nat) => match a with | (r, k, e) => [(1, .int (nI e)), (3, .int (nI k)), (4, .int (hdI r)), (2, .int (nI b)), (0, .ref (m 0))]) (fun (a : List Nat × Nat × Nat) => match a with | (r, k, e) => (isCh (M 4) r) ∧ (T.A.eff = e + (effL T.A.sz (k + 1) r + smF (fun b => effL T.A.sz 1 (T.A.ch b)) (T.A.nb - (b + 1)) (b + 1)))) (fun (a : List Nat × Nat × Nat) => match a with | (r, k, e) => r.length) ?_ (T.A.ch b, 0, n) (⟨hy.1.1.chain h64, by rw [i3, smF_step hb]⟩)
    intro a hI ih2
    obtain ⟨r, k, e⟩ := a
    obtain ⟨j1, j3⟩ : (isCh (M 4) r) ∧ (T.A.eff = e + (effL T.A.sz (k + 1) r + smF (fun b => effL T.A.sz 1 (T.A.ch b)) (T.A.nb - (b + 1)) (b + 1))) := hI
    show G x l (rmF 2 72) D 5 0 0 (wM cy cz m M) [(1, .int (nI e)), (3, .int (nI k)), (4, .int (hdI r)), (2, .int (nI b)), (0, .ref (m 0))] [] 17
    rcases r with _ | ⟨q, r⟩
    · skip
      have j3 : T.A.eff = e + (0 + smF (fun b => effL T.A.sz 1 (T.A.ch b)) (T.A.nb - (b + 1)) (b + 1)) := j3
      rw [Nat.zero_add] at j3
      show G x l (rmF 2 72) D 5 0 0 (wM cy cz m M) [(1, .int (nI e)), (3, .int (nI k)), (4, .int vNONE), (2, .int (nI b)), (0, .ref (m 0))] [] 17
      refine g_iload C dX4_effort_17 2 rfl ?_
      refine g_ldc C (v := vNONE) mX4_effort_k44 dX4_effort_19 ?_
      refine g_icmp_eq C (tgt := 51) dX4_effort_21 (by decide) (fun c2 => ?_) (fun c2 => ?_)
      · skip
        refine g_iinc C (q := 3) (v := nI (b + 1)) (lv' := [(2, .int (nI (b + 1))), (1, .int (nI e)), (3, .int (nI k)), (4, .int vNONE), (0, .ref (m 0))]) dX4_effort_51 rfl (nI_1 b) (by decide) rfl ?_
        refine g_goto C (tgt := 4) dX4_effort_54 (by decide) ?_
        refine g_lv (lv' := [(1, .int (nI e)), (2, .int (nI (b + 1))), (0, .ref (m 0))]) [1, 0, 4] rfl ?_
        exact ih (b + 1, e) ⟨by omega, by rw [j3]⟩ (by show T.A.nb - (b + 1) < T.A.nb - b; omega)
      · skip
        exact absurd rfl (c2)
    · skip
      obtain ⟨hq, hn, j1⟩ := j1
      have j3 : T.A.eff = e + ((k + 1) * T.A.sz q + effL T.A.sz (k + 1 + 1) r + smF (fun b => effL T.A.sz 1 (T.A.ch b)) (T.A.nb - (b + 1)) (b + 1)) := j3
      show G x l (rmF 2 72) D 5 0 0 (wM cy cz m M) [(1, .int (nI e)), (3, .int (nI k)), (4, .int (nI q)), (2, .int (nI b)), (0, .ref (m 0))] [] 17
      refine g_iload C dX4_effort_17 2 rfl ?_
      refine g_ldc C (v := vNONE) mX4_effort_k44 dX4_effort_19 ?_
      refine g_icmp_eq C (tgt := 51) dX4_effort_21 (by decide) (fun c2 => ?_) (fun c2 => ?_)
      · skip
        exact absurd c2 (NONE_nI (by omega))
      · skip
        refine g_iinc C (q := 1) (v := nI (k + 1)) (lv' := [(3, .int (nI (k + 1))), (1, .int (nI e)), (4, .int (nI q)), (2, .int (nI b)), (0, .ref (m 0))]) dX4_effort_24 rfl (nI_1 k) (by decide) rfl ?_
        refine g_iload_n C dX4_effort_27 1 rfl rfl ?_
        refine g_iload_n C dX4_effort_28 0 rfl rfl ?_
        refine g_aload_n C dX4_effort_29 4 rfl rfl ?_
        refine g_get C 0 (f := 2) (v := .ref (m 3)) (Cn := RX4) (T := TX4) (N := 20) dX4_effort_30 rfl rfl iX4_effort_X4 (by decide) mX4_effort_f16 rfl ?_
        refine g_iload C dX4_effort_33 2 rfl ?_
        refine g_iald C 3 0 (f := M 3) (N := 128) q dX4_effort_35 rfl rfl (by decide) (rfl) (hq) ?_
        refine g_top (b := nI (T.A.sz q)) (hy.1.1.used hq) ?_
        refine g_imul C dX4_effort_36 ?_
        refine g_top (b := nI ((k + 1) * T.A.sz q)) (pk_mul _ _) ?_
        refine g_iadd C dX4_effort_37 ?_
        refine g_top (b := nI (e + (k + 1) * T.A.sz q)) (nI_add _ _) ?_
        refine g_istore_n C (lv' := [(1, .int (nI (e + (k + 1) * T.A.sz q))), (3, .int (nI (k + 1))), (4, .int (nI q)), (2, .int (nI b)), (0, .ref (m 0))]) dX4_effort_38 rfl (by decide) rfl ?_
        refine g_aload_n C dX4_effort_39 4 rfl rfl ?_
        refine g_get C 0 (f := 3) (v := .ref (m 4)) (Cn := RX4) (T := TX4) (N := 20) dX4_effort_40 rfl rfl iX4_effort_X4 (by decide) mX4_effort_f19 rfl ?_
        refine g_iload C dX4_effort_43 2 rfl ?_
        refine g_iald C 4 0 (f := M 4) (N := 128) q dX4_effort_45 rfl rfl (by decide) (rfl) (hq) ?_
        refine g_top (b := hdI r) (hn) ?_
        refine g_istore C (lv' := [(4, .int (hdI r)), (1, .int (nI (e + (k + 1) * T.A.sz q))), (3, .int (nI (k + 1))), (2, .int (nI b)), (0, .ref (m 0))]) dX4_effort_46 (by decide) rfl ?_
        refine g_goto C (tgt := 17) dX4_effort_48 (by decide) ?_
        refine g_lv (lv' := [(1, .int (nI (e + (k + 1) * T.A.sz q))), (3, .int (nI (k + 1))), (4, .int (hdI r)), (2, .int (nI b)), (0, .ref (m 0))]) [1, 2, 0, 3, 4] rfl ?_
        exact ih2 (r, k + 1, e + (k + 1) * T.A.sz q) ⟨j1, by omega⟩ (Nat.lt_succ_self _)

set_option maxHeartbeats 1600000 in
set_option maxRecDepth 20000 in
theorem c_X4_longest (l : Launch) (D : va_G) (cy cz : ClassId) (m : Nat → Nat) (M : Mem) (A : AS) (hr : RM A M) : MId l yX4_longest wsX4_longest (rmF 2 72) D (tyL cy cz) [.ref (m 0)] (wM cy cz m M) (nI A.lng) (wM cy cz m M) := by
  refine g_entI (cc := cX4_longest) (maxL := 3) (own := RX4) (by decide) rfl rfl (Nat.le_of_ble_eq_true rfl) (fun x C ret => ?_)
  show G x l (rmF 2 72) D 3 0 0 (wM cy cz m M) [(0, .ref (m 0))] [] 0
  have n64 := hr.nb64
  refine g_iconst C (v := 0) dX4_longest_0 (by decide) ?_
  refine g_istore_n C (lv' := [(1, .int 0), (0, .ref (m 0))]) dX4_longest_1 rfl (by decide) rfl ?_
  refine g_iconst C (v := 0) dX4_longest_2 (by decide) ?_
  refine g_istore_n C (lv' := [(2, .int 0), (1, .int 0), (0, .ref (m 0))]) dX4_longest_3 rfl (by decide) rfl ?_
  refine g_lv (lv' := [(1, .int 0), (2, .int 0), (0, .ref (m 0))]) [1, 0, 2] rfl ?_
  refine g_loop (σ := Nat × Nat) (fun (a : Nat × Nat) => match a with | (b, n) => (wM cy cz m M)) (fun (a : Nat × Nat) => match a with | (b, n) => [(1, .int (nI n)), (2, .int (nI b)), (0, .ref (m 0))]) (fun (a : Nat × Nat) => match a with | (b, n) => (b ≤ A.nb) ∧ (n ≤ 65) ∧ (A.lng = mxF (fun b => (A.tl b).length + 1) (A.nb - b) b n)) (fun (a : Nat × Nat) => match a with | (b, n) => A.nb - b) ?_ (0, 0) (⟨Nat.zero_le _, by decide, rfl⟩)
  intro a hI ih
  obtain ⟨b, n⟩ := a
  obtain ⟨i1, i2, i3⟩ : (b ≤ A.nb) ∧ (n ≤ 65) ∧ (A.lng = mxF (fun b => (A.tl b).length + 1) (A.nb - b) b n) := hI
  show G x l (rmF 2 72) D 3 0 0 (wM cy cz m M) [(1, .int (nI n)), (2, .int (nI b)), (0, .ref (m 0))] [] 4
  refine g_iload_n C dX4_longest_4 1 rfl rfl ?_
  refine g_aload_n C dX4_longest_5 2 rfl rfl ?_
  refine g_callIV C [0, 1, 2, 3, 4, 5, 6, 7, 8, 9, 10] [] [0, 1, 2, 3, 4, 5, 6, 7, 8, 9, 10] 0 4 (b := m 0) rfl rfl (As := []) (rest := [.int (nI b)]) (wr := ([] : va_W)) (wf := fun _ => (wM cy cz m M)) dX4_longest_6 gX4_longest_X4_buckets rfl dmX4_buckets ⟨rfl, rfl, Nat.le_of_ble_eq_true rfl, Nat.le_of_ble_eq_true rfl, Nat.zero_le _, Nat.zero_le _⟩ (c_X4_buckets l D cy cz m M) ⟨rfl, rfl, rfl, rfl, by decide, rfl, fun _ => rfl⟩ (Nat.le_of_ble_eq_true rfl) ?_
  rintro _ - rfl
  show G x l (rmF 2 72) D 3 0 0 (wM cy cz m M) [(1, .int (nI n)), (2, .int (nI b)), (0, .ref (m 0))] [.int ((4 <<< (M 0 0 &&& 31)) + M 0 1), .int (nI b)] 9
  refine g_top (b := nI A.nb) (hr.nb) ?_
  refine g_icmp_ge C (tgt := 37) dX4_longest_9 (by decide) (fun c1 => ?_) (fun c1 => ?_)
  · skip
    refine g_iload_n C dX4_longest_37 0 rfl rfl ?_
    exact ret _ () _ _ dX4_longest_38 (by rw [i3, show A.nb - b = 0 by have := (nI_leI (by omega) (by omega)).mp c1; omega]; rfl)
  · skip
    have hb : b < A.nb := Nat.lt_of_not_le (fun w => c1 (nI_le w (by omega)))
    have h64 : b < 64 := by omega
    have hln := hr.1.1.len h64
    refine g_aload_n C dX4_longest_12 2 rfl rfl ?_
    refine g_iload_n C dX4_longest_13 1 rfl rfl ?_
    refine g_callIV C [0, 1, 2, 3, 4, 5, 6, 7, 8, 9, 10] [] [0, 1, 2, 3, 4, 5, 6, 7, 8, 9, 10] 0 4 (b := m 0) rfl rfl (As := [.int (nI b)]) (rest := []) (wr := ([] : va_W)) (wf := fun _ => (wM cy cz m M)) dX4_longest_14 gX4_longest_X4_pagesIn rfl dmX4_pagesIn ⟨rfl, rfl, Nat.le_of_ble_eq_true rfl, Nat.le_of_ble_eq_true rfl, Nat.zero_le _, Nat.zero_le _⟩ (c_X4_pagesIn l D cy cz m M A b hr.1 h64) ⟨rfl, rfl, rfl, rfl, by decide, rfl, fun _ => rfl⟩ (Nat.le_of_ble_eq_true rfl) ?_
    rintro _ - rfl
    show G x l (rmF 2 72) D 3 0 0 (wM cy cz m M) [(1, .int (nI n)), (2, .int (nI b)), (0, .ref (m 0))] [.int (nI ((A.tl b).length + 1))] 17
    refine g_iload_n C dX4_longest_17 0 rfl rfl ?_
    refine g_icmp_le C (tgt := 29) dX4_longest_18 (by decide) (fun c2 => ?_) (fun c2 => ?_)
    · skip
      have h5 : ¬ n < (A.tl b).length + 1 := by have := (nI_leI (by omega) (by omega)).mp c2; omega
      refine g_iload_n C dX4_longest_29 0 rfl rfl ?_
      refine g_istore_n C (lv' := [(1, .int (nI n)), (2, .int (nI b)), (0, .ref (m 0))]) dX4_longest_30 rfl (by decide) rfl ?_
      refine g_iinc C (q := 1) (v := nI (b + 1)) (lv' := [(2, .int (nI (b + 1))), (1, .int (nI n)), (0, .ref (m 0))]) dX4_longest_31 rfl (nI_1 b) (by decide) rfl ?_
      refine g_goto C (tgt := 4) dX4_longest_34 (by decide) ?_
      refine g_lv (lv' := [(1, .int (nI n)), (2, .int (nI (b + 1))), (0, .ref (m 0))]) [1, 0, 2] rfl ?_
      exact ih (b + 1, n) ⟨by omega, by omega, by rw [i3, mxF_step hb, if_neg h5]⟩ (by show A.nb - (b + 1) < A.nb - b; omega)
    · skip
      have h5 : n < (A.tl b).length + 1 := Nat.lt_of_not_le (fun w => c2 (nI_le w (by omega)))
      refine g_aload_n C dX4_longest_21 2 rfl rfl ?_
      refine g_iload_n C dX4_longest_22 1 rfl rfl ?_
      refine g_callIV C [0, 1, 2, 3, 4, 5, 6, 7, 8, 9, 10] [] [0, 1, 2, 3, 4, 5, 6, 7, 8, 9, 10] 0 4 (b := m 0) rfl rfl (As := [.int (nI b)]) (rest := []) (wr := ([] : va_W)) (wf := fun _ => (wM cy cz m M)) dX4_longest_23 gX4_longest_X4_pagesIn rfl dmX4_pagesIn ⟨rfl, rfl, Nat.le_of_ble_eq_true rfl, Nat.le_of_ble_eq_true rfl, Nat.zero_le _, Nat.zero_le _⟩ (c_X4_pagesIn l D cy cz m M A b hr.1 h64) ⟨rfl, rfl, rfl, rfl, by decide, rfl, fun _ => rfl⟩ (Nat.le_of_ble_eq_true rfl) ?_
      rintro _ - rfl
      show G x l (rmF 2 72) D 3 0 0 (wM cy cz m M) [(1, .int (nI n)), (2, .int (nI b)), (0, .ref (m 0))] [.int (nI ((A.tl b).length + 1))] 26
      refine g_goto C (tgt := 30) dX4_longest_26 (by decide) ?_
      refine g_istore_n C (lv' := [(1, .int (nI ((A.tl b).length + 1))), (2, .int (nI b)), (0, .ref (m 0))]) dX4_longest_30 rfl (by decide) rfl ?_
      refine g_iinc C (q := 1) (v := nI (b + 1)) (lv' := [(2, .int (nI (b + 1))), (1, .int (nI ((A.tl b).length + 1))), (0, .ref (m 0))]) dX4_longest_31 rfl (nI_1 b) (by decide) rfl ?_
      refine g_goto C (tgt := 4) dX4_longest_34 (by decide) ?_
      refine g_lv (lv' := [(1, .int (nI ((A.tl b).length + 1))), (2, .int (nI (b + 1))), (0, .ref (m 0))]) [1, 0, 2] rfl ?_
      exact ih (b + 1, (A.tl b).length + 1) ⟨by omega, by omega, by rw [i3, mxF_step hb, if_pos h5]⟩ (by show A.nb - (b + 1) < A.nb - b; omega)

theorem mX4_count_f52 : Cond.fieldLink RX4 52 (TX4 7).1 (TX4 7).2.1 (TX4 7).2.2.1 ∈ wsX4_count := List.mem_of_getElem? (i := 1) rfl
theorem iX4_count_X4 : ∀ w ∈ wsX40, w ∈ wsX4_count := by decide +kernel
theorem mX4_count_f45 : Cond.fieldLink RX4 45 (TX4 5).1 (TX4 5).2.1 (TX4 5).2.2.1 ∈ wsX4_count := List.mem_of_getElem? (i := 2) rfl
theorem mX4_count_f49 : Cond.fieldLink RX4 49 (TX4 6).1 (TX4 6).2.1 (TX4 6).2.2.1 ∈ wsX4_count := List.mem_of_getElem? (i := 3) rfl
theorem mX4_count_f105 : Cond.fieldLink RX4 105 (TX4 10).1 (TX4 10).2.1 (TX4 10).2.2.1 ∈ wsX4_count := List.mem_of_getElem? (i := 4) rfl
theorem mX4_count_f122 : Cond.fieldLink RX4 122 (TX4 11).1 (TX4 11).2.1 (TX4 11).2.2.1 ∈ wsX4_count := List.mem_of_getElem? (i := 5) rfl
theorem mX4_count_f115 : Cond.fieldLink RX4 115 (TX4 13).1 (TX4 13).2.1 (TX4 13).2.2.1 ∈ wsX4_count := List.mem_of_getElem? (i := 6) rfl
theorem mX4_count_f108 : Cond.fieldLink RX4 108 (TX4 14).1 (TX4 14).2.1 (TX4 14).2.2.1 ∈ wsX4_count := List.mem_of_getElem? (i := 7) rfl
theorem mX4_count_f136 : Cond.fieldLink RX4 136 (TX4 16).1 (TX4 16).2.1 (TX4 16).2.2.1 ∈ wsX4_count := List.mem_of_getElem? (i := 8) rfl
theorem mX4_count_k126 : Cond.constant RX4 126 (-2000000001) ∈ wsX4_count := List.mem_of_getElem? (i := 9) rfl
set_option maxHeartbeats 1600000 in
set_option maxRecDepth 20000 in
theorem c_X4_count (l : Launch) (D : va_G) (cy cz : ClassId) (m : Nat → Nat) (M : Mem) (T : TS) (what : Int32) (hy : RY T M) : MI l yX4_count wsX4_count (rmF 3 108) D (tyL cy cz) [.ref (m 0), .int what] (wM cy cz m M) (fun (r : Int32) (M1 : Mem) => r = aCount T what ∧ RY T M1) (fun M1 => (wM cy cz m M1)) := by
  refine g_entI (cc := cX4_count) (maxL := 2) (own := RX4) (by decide) rfl rfl (Nat.le_of_ble_eq_true rfl) (fun x C ret => ?_)
  show G x l (rmF 3 108) D 2 0 0 (wM cy cz m M) [(0, .ref (m 0)), (1, .int what)] [] 0
  refine g_iload_n C dX4_count_0 1 rfl rfl ?_
  by_cases hsw : 0 ≤ (what).toInt ∧ (what).toInt ≤ 10
  · skip
    obtain ⟨jw, hjw, rfl⟩ : ∃ jw : Nat, jw ≤ 10 ∧ what = nI jw := sw_of hsw (by decide)
    rcases sw_10 hjw with rfl | rfl | rfl | rfl | rfl | rfl | rfl | rfl | rfl | rfl | rfl
    · skip
      refine g_tabIn C (tgt := 60) dX4_count_1 (by decide) (by decide) (off := 59) rfl (by decide) ?_
      show G x l (rmF 3 108) D 2 0 0 (wM cy cz m M) [(0, .ref (m 0)), (1, .int (nI 0))] [] 60
      refine g_aload_n C dX4_count_60 0 rfl rfl ?_
      refine g_get C 0 (f := 7) (v := .int (M 0 2)) (Cn := RX4) (T := TX4) (N := 20) dX4_count_61 rfl rfl iX4_count_X4 (by decide) mX4_count_f52 rfl ?_
      refine g_top (b := T.E) (hy.2.1) ?_
      exact ret _ M _ _ dX4_count_64 (⟨by rw [aCount_in (by decide)]; rfl, hy⟩)
    · skip
      refine g_tabIn C (tgt := 65) dX4_count_1 (by decide) (by decide) (off := 64) rfl (by decide) ?_
      show G x l (rmF 3 108) D 2 0 0 (wM cy cz m M) [(0, .ref (m 0)), (1, .int (nI 1))] [] 65
      refine g_aload_n C dX4_count_65 0 rfl rfl ?_
      refine g_callIV C [0, 1, 2, 3, 4, 5, 6, 7, 8, 9, 10] [] [0, 1, 2, 3, 4, 5, 6, 7, 8, 9, 10] 0 4 (b := m 0) rfl rfl (As := []) (rest := []) (wr := ([] : va_W)) (wf := fun _ => (wM cy cz m M)) dX4_count_66 gX4_count_X4_buckets rfl dmX4_buckets ⟨rfl, rfl, Nat.le_of_ble_eq_true rfl, Nat.le_of_ble_eq_true rfl, Nat.zero_le _, Nat.zero_le _⟩ (c_X4_buckets l D cy cz m M) ⟨rfl, rfl, rfl, rfl, by decide, rfl, fun _ => rfl⟩ (Nat.le_of_ble_eq_true rfl) ?_
      rintro _ - rfl
      show G x l (rmF 3 108) D 2 0 0 (wM cy cz m M) [(0, .ref (m 0)), (1, .int (nI 1))] [.int ((4 <<< (M 0 0 &&& 31)) + M 0 1)] 69
      refine g_top (b := nI T.A.nb) (hy.1.nb) ?_
      exact ret _ M _ _ dX4_count_69 (⟨by rw [aCount_in (by decide)]; rfl, hy⟩)
    · skip
      refine g_tabIn C (tgt := 70) dX4_count_1 (by decide) (by decide) (off := 69) rfl (by decide) ?_
      show G x l (rmF 3 108) D 2 0 0 (wM cy cz m M) [(0, .ref (m 0)), (1, .int (nI 2))] [] 70
      refine g_aload_n C dX4_count_70 0 rfl rfl ?_
      refine g_get C 0 (f := 5) (v := .int (M 0 0)) (Cn := RX4) (T := TX4) (N := 20) dX4_count_71 rfl rfl iX4_count_X4 (by decide) mX4_count_f45 rfl ?_
      refine g_top (b := nI T.A.L) (hy.1.2.2.1) ?_
      exact ret _ M _ _ dX4_count_74 (⟨by rw [aCount_in (by decide)]; rfl, hy⟩)
    · skip
      refine g_tabIn C (tgt := 75) dX4_count_1 (by decide) (by decide) (off := 74) rfl (by decide) ?_
      show G x l (rmF 3 108) D 2 0 0 (wM cy cz m M) [(0, .ref (m 0)), (1, .int (nI 3))] [] 75
      refine g_aload_n C dX4_count_75 0 rfl rfl ?_
      refine g_get C 0 (f := 6) (v := .int (M 0 1)) (Cn := RX4) (T := TX4) (N := 20) dX4_count_76 rfl rfl iX4_count_X4 (by decide) mX4_count_f49 rfl ?_
      refine g_top (b := nI T.A.S) (hy.1.2.2.2) ?_
      exact ret _ M _ _ dX4_count_79 (⟨by rw [aCount_in (by decide)]; rfl, hy⟩)
    · skip
      refine g_tabIn C (tgt := 80) dX4_count_1 (by decide) (by decide) (off := 79) rfl (by decide) ?_
      show G x l (rmF 3 108) D 2 0 0 (wM cy cz m M) [(0, .ref (m 0)), (1, .int (nI 4))] [] 80
      refine g_aload_n C dX4_count_80 0 rfl rfl ?_
      refine g_callIV C [0, 1, 2, 3, 4, 5, 6, 7, 8, 9, 10] [] [0, 1, 2, 3, 4, 5, 6, 7, 8, 9, 10] 0 4 (b := m 0) rfl rfl (As := []) (rest := []) (wr := ([] : va_W)) (wf := fun _ => (wM cy cz m M)) dX4_count_81 gX4_count_X4_freeOnes rfl dmX4_freeOnes ⟨rfl, rfl, Nat.le_of_ble_eq_true rfl, Nat.le_of_ble_eq_true rfl, Nat.zero_le _, Nat.zero_le _⟩ (c_X4_freeOnes l D cy cz m M T.A hy.1.1) ⟨rfl, rfl, rfl, rfl, by decide, rfl, fun _ => rfl⟩ (Nat.le_of_ble_eq_true rfl) ?_
      rintro _ - rfl
      show G x l (rmF 3 108) D 2 0 0 (wM cy cz m M) [(0, .ref (m 0)), (1, .int (nI 4))] [.int (nI T.A.fc)] 84
      exact ret _ M _ _ dX4_count_84 (⟨by rw [aCount_in (by decide)]; rfl, hy⟩)
    · skip
      refine g_tabIn C (tgt := 85) dX4_count_1 (by decide) (by decide) (off := 84) rfl (by decide) ?_
      show G x l (rmF 3 108) D 2 0 0 (wM cy cz m M) [(0, .ref (m 0)), (1, .int (nI 5))] [] 85
      refine g_aload_n C dX4_count_85 0 rfl rfl ?_
      refine g_get C 0 (f := 10) (v := .int (M 0 3)) (Cn := RX4) (T := TX4) (N := 20) dX4_count_86 rfl rfl iX4_count_X4 (by decide) mX4_count_f105 rfl ?_
      refine g_top (b := nI (T.kl.length + T.w.length)) (hy.2.2.1.trans (congrArg nI (log_len T))) ?_
      refine g_aload_n C dX4_count_89 0 rfl rfl ?_
      refine g_get C 0 (f := 11) (v := .int (M 0 4)) (Cn := RX4) (T := TX4) (N := 20) dX4_count_90 rfl rfl iX4_count_X4 (by decide) mX4_count_f122 rfl ?_
      refine g_top (b := nI T.kl.length) (hy.2.2.2.1) ?_
      refine g_isub C dX4_count_93 ?_
      refine g_top (b := nI T.w.length) ((pk_sub (by omega)).trans (congrArg nI (by omega))) ?_
      exact ret _ M _ _ dX4_count_94 (⟨by rw [aCount_in (by decide)]; rfl, hy⟩)
    · skip
      refine g_tabIn C (tgt := 95) dX4_count_1 (by decide) (by decide) (off := 94) rfl (by decide) ?_
      show G x l (rmF 3 108) D 2 0 0 (wM cy cz m M) [(0, .ref (m 0)), (1, .int (nI 6))] [] 95
      refine g_aload_n C dX4_count_95 0 rfl rfl ?_
      refine g_get C 0 (f := 13) (v := .int (M 0 5)) (Cn := RX4) (T := TX4) (N := 20) dX4_count_96 rfl rfl iX4_count_X4 (by decide) mX4_count_f115 rfl ?_
      refine g_top (b := nI T.gs.length) (hy.2.2.2.2.2.1) ?_
      exact ret _ M _ _ dX4_count_99 (⟨by rw [aCount_in (by decide)]; rfl, hy⟩)
    · skip
      refine g_tabIn C (tgt := 100) dX4_count_1 (by decide) (by decide) (off := 99) rfl (by decide) ?_
      show G x l (rmF 3 108) D 2 0 0 (wM cy cz m M) [(0, .ref (m 0)), (1, .int (nI 7))] [] 100
      refine g_aload_n C dX4_count_100 0 rfl rfl ?_
      refine g_get C 0 (f := 14) (v := .int (M 0 6)) (Cn := RX4) (T := TX4) (N := 20) dX4_count_101 rfl rfl iX4_count_X4 (by decide) mX4_count_f108 rfl ?_
      refine g_top (b := if T.op.isSome then 1 else 0) (hy.2.2.2.2.2.2.2.1) ?_
      refine g_if_eq C (tgt := 111) dX4_count_104 (by decide) (fun c9 => ?_) (fun c9 => ?_)
      · skip
        refine g_iconst C (v := 0) dX4_count_111 (by decide) ?_
        exact ret _ M _ _ dX4_count_112 (⟨by rw [aCount_in (by decide)]; exact c9.symm, hy⟩)
      · skip
        refine g_iconst C (v := 1) dX4_count_107 (by decide) ?_
        refine g_goto C (tgt := 112) dX4_count_108 (by decide) ?_
        exact ret _ M _ _ dX4_count_112 (⟨by rw [aCount_in (by decide)]; show (1 : Int32) = if T.op.isSome then 1 else 0; rw [if_pos (Decidable.byContradiction (fun w => c9 (if_neg w)))], hy⟩)
    · skip
      refine g_tabIn C (tgt := 113) dX4_count_1 (by decide) (by decide) (off := 112) rfl (by decide) ?_
      show G x l (rmF 3 108) D 2 0 0 (wM cy cz m M) [(0, .ref (m 0)), (1, .int (nI 8))] [] 113
      refine g_aload_n C dX4_count_113 0 rfl rfl ?_
      refine g_get C 0 (f := 16) (v := .int (M 0 8)) (Cn := RX4) (T := TX4) (N := 20) dX4_count_114 rfl rfl iX4_count_X4 (by decide) mX4_count_f136 rfl ?_
      refine g_top (b := T.rd) (hy.2.2.2.2.2.2.2.2.2.1) ?_
      exact ret _ M _ _ dX4_count_117 (⟨by rw [aCount_in (by decide)]; rfl, hy⟩)
    · skip
      refine g_tabIn C (tgt := 118) dX4_count_1 (by decide) (by decide) (off := 117) rfl (by decide) ?_
      show G x l (rmF 3 108) D 2 0 0 (wM cy cz m M) [(0, .ref (m 0)), (1, .int (nI 9))] [] 118
      refine g_aload_n C dX4_count_118 0 rfl rfl ?_
      refine g_get C 0 (f := 10) (v := .int (M 0 3)) (Cn := RX4) (T := TX4) (N := 20) dX4_count_119 rfl rfl iX4_count_X4 (by decide) mX4_count_f105 rfl ?_
      refine g_top (b := nI (T.kl.length + T.w.length)) (hy.2.2.1.trans (congrArg nI (log_len T))) ?_
      exact ret _ M _ _ dX4_count_122 (⟨by rw [aCount_in (by decide)]; rfl, hy⟩)
    · skip
      refine g_tabIn C (tgt := 123) dX4_count_1 (by decide) (by decide) (off := 122) rfl (by decide) ?_
      show G x l (rmF 3 108) D 2 0 0 (wM cy cz m M) [(0, .ref (m 0)), (1, .int (nI 10))] [] 123
      refine g_aload_n C dX4_count_123 0 rfl rfl ?_
      refine g_callIV C [0, 1, 2, 3, 4, 5, 6, 7, 8, 9, 10] [] [0, 1, 2, 3, 4, 5, 6, 7, 8, 9, 10] 0 4 (b := m 0) rfl rfl (As := []) (rest := []) (wr := ([] : va_W)) (wf := fun _ => (wM cy cz m M)) dX4_count_124 gX4_count_X4_longest rfl dmX4_longest ⟨rfl, rfl, Nat.le_of_ble_eq_true rfl, Nat.le_of_ble_eq_true rfl, Nat.zero_le _, Nat.zero_le _⟩ (c_X4_longest l D cy cz m M T.A hy.1) ⟨rfl, rfl, rfl, rfl, by decide, rfl, fun _ => rfl⟩ (Nat.le_of_ble_eq_true rfl) ?_
      rintro _ - rfl
      show G x l (rmF 3 108) D 2 0 0 (wM cy cz m M) [(0, .ref (m 0)), (1, .int (nI 10))] [.int (nI T.A.lng)] 127
      exact ret _ M _ _ dX4_count_127 (⟨by rw [aCount_in (by decide)]; rfl, hy⟩)
  · skip
    refine g_tabOut C (tgt := 128) dX4_count_1 (by omega) (by decide) ?_
    refine g_ldc C (v := (-2000000001)) mX4_count_k126 dX4_count_128 ?_
    exact ret _ M _ _ dX4_count_130 (⟨(aCount_sw hsw).symm, hy⟩)
