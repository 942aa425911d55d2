/-! made by wip/whole/gen.py and m1.py -/
theorem mX0_push_f18 : Cond.fieldLink RX0 18 (TX0 2).1 (TX0 2).2.1 (TX0 2).2.2.1 ∈ wsX0_push := List.mem_of_getElem? (i := 1) rfl
theorem iX0_push_X0 : ∀ w ∈ wsX00, w ∈ wsX0_push := by decide +kernel
theorem mX0_push_f9 : Cond.fieldLink RX0 9 (TX0 0).1 (TX0 0).2.1 (TX0 0).2.2.1 ∈ wsX0_push := List.mem_of_getElem? (i := 2) rfl
theorem mX0_push_f15 : Cond.fieldLink RX0 15 (TX0 1).1 (TX0 1).2.1 (TX0 1).2.2.1 ∈ wsX0_push := List.mem_of_getElem? (i := 3) rfl
set_option maxHeartbeats 1600000 in
set_option maxRecDepth 20000 in
theorem c_X0_push (l : Launch) (D : va_G) (cy cz : ClassId) (z : Nat → Nat) (Z : Mem) (h : EL) (k : Int32) (v : Int32) (hz : RZ Z h) (hl : h.length < 264) : MV l yX0_push wsX0_push (rmF 0 0) D (tyL cy cz) [.ref (z 0), .int k, .int v] (wZ cy z Z) (fun (Z1 : Mem) => RZ Z1 (h ++ [(k, v)])) (fun Z1 => (wZ cy z Z1)) := by
  refine g_entV (cc := cX0_push) (maxL := 3) (own := RX0) (by decide) rfl rfl (Nat.le_of_ble_eq_true rfl) (fun x C ret => ?_)
  show G x l (rmF 0 0) D 3 0 0 (wZ cy z Z) [(0, .ref (z 0)), (1, .int k), (2, .int v)] [] 0
  refine g_aload_n C dX0_push_0 0 rfl rfl ?_
  refine g_get C 0 (f := 2) (v := .int (Z 0 0)) (Cn := RX0) (T := TX0) (N := 3) dX0_push_1 rfl rfl iX0_push_X0 (by decide) mX0_push_f18 rfl ?_
  refine g_top (b := nI h.length) (hz.1) ?_
  refine g_if_lt C (tgt := 47) dX0_push_4 (by decide) (fun c1 => ?_) (fun c1 => ?_)
  · skip
    exact absurd c1 (nI_pos (by omega))
  · skip
    refine g_aload_n C dX0_push_7 0 rfl rfl ?_
    refine g_get C 0 (f := 2) (v := .int (Z 0 0)) (Cn := RX0) (T := TX0) (N := 3) dX0_push_8 rfl rfl iX0_push_X0 (by decide) mX0_push_f18 rfl ?_
    refine g_top (b := nI h.length) (hz.1) ?_
    refine g_sipush C (v := 264) dX0_push_11 (by decide) ?_
    refine g_icmp_ge C (tgt := 47) dX0_push_14 (by decide) (fun c2 => ?_) (fun c2 => ?_)
    · skip
      exact absurd c2 (nI_ge hl (by decide))
    · skip
      refine g_aload_n C dX0_push_17 0 rfl rfl ?_
      refine g_get C 0 (f := 0) (v := .ref (z 1)) (Cn := RX0) (T := TX0) (N := 3) dX0_push_18 rfl rfl iX0_push_X0 (by decide) mX0_push_f9 rfl ?_
      refine g_aload_n C dX0_push_21 0 rfl rfl ?_
      refine g_get C 0 (f := 2) (v := .int (Z 0 0)) (Cn := RX0) (T := TX0) (N := 3) dX0_push_22 rfl rfl iX0_push_X0 (by decide) mX0_push_f18 rfl ?_
      refine g_top (b := nI h.length) (hz.1) ?_
      refine g_iload_n C dX0_push_25 1 rfl rfl ?_
      refine g_iast C 1 0 (f := Z 1) (N := 264) (ws' := (wZ cy z (ps Z 1 h.length k))) h.length dX0_push_26 rfl rfl (by decide) (rfl) (hl) (wZ_a1 cy z Z h.length k) ?_
      refine g_aload_n C dX0_push_27 0 rfl rfl ?_
      refine g_get C 0 (f := 1) (v := .ref (z 2)) (Cn := RX0) (T := TX0) (N := 3) dX0_push_28 rfl rfl iX0_push_X0 (by decide) mX0_push_f15 rfl ?_
      refine g_aload_n C dX0_push_31 0 rfl rfl ?_
      refine g_get C 0 (f := 2) (v := .int (Z 0 0)) (Cn := RX0) (T := TX0) (N := 3) dX0_push_32 rfl rfl iX0_push_X0 (by decide) mX0_push_f18 rfl ?_
      refine g_top (b := nI h.length) (hz.1) ?_
      refine g_iload_n C dX0_push_35 2 rfl rfl ?_
      refine g_iast C 2 0 (f := (ps Z 1 h.length k) 2) (N := 264) (ws' := (wZ cy z (ps (ps Z 1 h.length k) 2 h.length v))) h.length dX0_push_36 rfl rfl (by decide) (rfl) (hl) (wZ_a2 cy z (ps Z 1 h.length k) h.length v) ?_
      refine g_aload_n C dX0_push_37 0 rfl rfl ?_
      refine g_dup C dX0_push_38 rfl ?_
      refine g_get C 0 (f := 2) (v := .int (Z 0 0)) (Cn := RX0) (T := TX0) (N := 3) dX0_push_39 rfl rfl iX0_push_X0 (by decide) mX0_push_f18 rfl ?_
      refine g_top (b := nI h.length) (hz.1) ?_
      refine g_iconst C (v := 1) dX0_push_42 (by decide) ?_
      refine g_iadd C dX0_push_43 ?_
      refine g_top (b := nI (h.length + 1)) (nI_1 _) ?_
      refine g_put C 0 (f := 2) (v := .int (nI (h.length + 1))) (ty := .int) (Cn := RX0) (T := TX0) (N := 3) (ws' := (wZ cy z (ps (ps (ps Z 1 h.length k) 2 h.length v) 0 0 (nI (h.length + 1))))) dX0_push_44 rfl rfl iX0_push_X0 tyX0 tyX0_ok nmX0 (by decide) mX0_push_f18 rfl rfl (rfl) (rfl) (Nat.le_of_ble_eq_true rfl) (wZ_s0 cy z (ps (ps Z 1 h.length k) 2 h.length v) (nI (h.length + 1))) ?_
      exact ret (ps (ps (ps Z 1 h.length k) 2 h.length v) 0 0 (nI (h.length + 1))) _ _ dX0_push_47 (RZ_push hz hl k v)

theorem mX2_setAside_f30 : Cond.fieldLink RX2 30 (TX2 6).1 (TX2 6).2.1 (TX2 6).2.2.1 ∈ wsX2_setAside := List.mem_of_getElem? (i := 7) rfl
theorem iX2_setAside_X2 : ∀ w ∈ wsX20, w ∈ wsX2_setAside := by decide +kernel
theorem mX2_setAside_inX3_isPage : Cond.initialized yX3_isPage.cls ∈ wsX2_setAside := List.mem_of_getElem? (i := 13) rfl
theorem mX2_setAside_stX3_isPage : Cond.static yX3_isPage ∈ wsX2_setAside := List.mem_of_getElem? (i := 12) rfl
theorem mX2_setAside_f57 : Cond.fieldLink RX2 57 (TX2 10).1 (TX2 10).2.1 (TX2 10).2.2.1 ∈ wsX2_setAside := List.mem_of_getElem? (i := 5) rfl
theorem mX2_setAside_f18 : Cond.fieldLink RX2 18 (TX2 2).1 (TX2 2).2.1 (TX2 2).2.2.1 ∈ wsX2_setAside := List.mem_of_getElem? (i := 1) rfl
theorem mX2_setAside_f21 : Cond.fieldLink RX2 21 (TX2 3).1 (TX2 3).2.1 (TX2 3).2.2.1 ∈ wsX2_setAside := List.mem_of_getElem? (i := 6) rfl
theorem mX2_setAside_f33 : Cond.fieldLink RX2 33 (TX2 7).1 (TX2 7).2.1 (TX2 7).2.2.1 ∈ wsX2_setAside := List.mem_of_getElem? (i := 2) rfl
theorem mX2_setAside_f9 : Cond.fieldLink RX2 9 (TX2 0).1 (TX2 0).2.1 (TX2 0).2.2.1 ∈ wsX2_setAside := List.mem_of_getElem? (i := 3) rfl
theorem mX2_setAside_f15 : Cond.fieldLink RX2 15 (TX2 1).1 (TX2 1).2.1 (TX2 1).2.2.1 ∈ wsX2_setAside := List.mem_of_getElem? (i := 4) rfl
set_option maxHeartbeats 1600000 in
set_option maxRecDepth 20000 in
theorem c_X2_setAside (l : Launch) (D : va_G) (cy cz : ClassId) (g : Nat → Nat) (z : Nat → Nat) (P : Mem) (Z : Mem) (A : AS) (h : EL) (b : Nat) (hr : RC A P) (hz : RZ Z h) (hb : b < 64) (hlen : h.length + sumL A.sz (A.ch b) ≤ 264) : MV l yX2_setAside wsX2_setAside (rmF 2 72) D (tyL cy cz) [.ref (g 0), .int (nI b)] (wG cy g (z 0) P ++ (wZ cy z Z)) (fun (u : Mem × Mem) => RC (A.clr b) u.1 ∧ u.1 0 0 = P 0 0 ∧ u.1 0 1 = P 0 1 ∧ u.1 0 2 = P 0 2 - nI (sumL A.sz (A.ch b)) ∧ RZ u.2 (h ++ A.held b)) (fun u => (wG cy g (z 0) u.1 ++ (wZ cy z u.2))) := by
  refine g_entV (cc := cX2_setAside) (maxL := 5) (own := RX2) (by decide) rfl rfl (Nat.le_of_ble_eq_true rfl) (fun x C ret => ?_)
  show G x l (rmF 2 72) D 5 0 0 (wG cy g (z 0) P ++ (wZ cy z Z)) [(0, .ref (g 0)), (1, .int (nI b))] [] 0
  refine g_iload_n C dX2_setAside_0 1 rfl rfl ?_
  refine g_callIS C [] [0, 1, 2, 3, 4, 5, 6, 7, 8, 9, 10] [0, 1, 2, 3, 4, 5, 6, 7, 8, 9, 10] (As := [.int (nI b)]) (rest := []) (wr := (wG cy g (z 0) P ++ (wZ cy z Z))) (wf := fun _ => (wG cy g (z 0) P ++ (wZ cy z Z))) dX2_setAside_1 gX2_setAside_X2_isBucketPlace rfl dmX2_isBucketPlace ⟨rfl, rfl, Nat.le_of_ble_eq_true rfl, Nat.le_of_ble_eq_true rfl, Nat.zero_le _, Nat.zero_le _⟩ (c_X2_isBucketPlace l D cy cz (nI b)) ⟨rfl, rfl, rfl, rfl, by decide, rfl, fun _ => rfl⟩ (Nat.le_of_ble_eq_true rfl) ?_
  rintro _ - rfl
  show G x l (rmF 2 72) D 5 0 0 (wG cy g (z 0) P ++ (wZ cy z Z)) [(0, .ref (g 0)), (1, .int (nI b))] [.int (inI 64 (nI b))] 4
  refine g_top (b := 1) (inI_nI (N := 64) hb (by decide)) ?_
  refine g_if_ne C (tgt := 8) dX2_setAside_4 (by decide) (fun c0 => ?_) (fun c0 => ?_)
  · skip
    refine g_iload_n C dX2_setAside_8 1 rfl rfl ?_
    refine g_istore_n C (lv' := [(2, .int (nI b)), (0, .ref (g 0)), (1, .int (nI b))]) dX2_setAside_9 rfl (by decide) rfl ?_
    refine g_iconst C (v := 0) dX2_setAside_10 (by decide) ?_
    refine g_istore_n C (lv' := [(3, .int 0), (2, .int (nI b)), (0, .ref (g 0)), (1, .int (nI b))]) dX2_setAside_11 rfl (by decide) rfl ?_
    refine g_lv (lv' := [(2, .int (nI b)), (3, .int 0), (0, .ref (g 0)), (1, .int (nI b))]) [1, 0, 2, 3] rfl ?_
    refine g_loop (σ := List Nat × List Nat × Mem × Mem) (fun (a : List Nat × List Nat × Mem × Mem) => match a with | (dn, r, P1, Z1) => (wG cy g (z 0) P1 ++ (wZ cy z Z1))) (fun (a : List Nat × List Nat × Mem × Mem) => match a with | (dn, r, P1, Z1) => [(2, .int (hdI r)), (3, .int (nI dn.length)), (0, .ref (g 0)), (1, .int (nI b))]) (fun (a : List Nat × List Nat × Mem × Mem) => match a with | (dn, r, P1, Z1) => (A.ch b = dn ++ r) ∧ (CLR P dn P1) ∧ (P1 0 2 = P 0 2 - nI (sumL A.sz dn)) ∧ (RZ Z1 (h ++ A.heldL dn)) ∧ (isCh (P 4) r)) (fun (a : List Nat × List Nat × Mem × Mem) => match a with | (dn, r, P1, Z1) => r.length) ?_ ([], A.ch b, P, Z) (⟨rfl, CLR_nil P, (Int32.sub_zero _).symm, by rw [show A.heldL [] = [] from rfl, List.append_nil]; exact hz, hr.chain hb⟩)
    intro a hI ih
    obtain ⟨dn, r, P1, Z1⟩ := a
    obtain ⟨i1, i2, i3, i4, i5⟩ : (A.ch b = dn ++ r) ∧ (CLR P dn P1) ∧ (P1 0 2 = P 0 2 - nI (sumL A.sz dn)) ∧ (RZ Z1 (h ++ A.heldL dn)) ∧ (isCh (P 4) r) := hI
    show G x l (rmF 2 72) D 5 0 0 (wG cy g (z 0) P1 ++ (wZ cy z Z1)) [(2, .int (hdI r)), (3, .int (nI dn.length)), (0, .ref (g 0)), (1, .int (nI b))] [] 12
    have hlt : dn.length + r.length ≤ 65 := by have := hr.len hb; rw [i1, List.length_append] at this; exact this
    have hnd := hr.1.nodup hb
    rcases r with _ | ⟨q, r⟩
    · skip
      rw [List.append_nil] at i1
      show G x l (rmF 2 72) D 5 0 0 (wG cy g (z 0) P1 ++ (wZ cy z Z1)) [(2, .int vNONE), (3, .int (nI dn.length)), (0, .ref (g 0)), (1, .int (nI b))] [] 12
      refine g_iload_n C dX2_setAside_12 1 rfl rfl ?_
      refine g_sipush C (v := 128) dX2_setAside_13 (by decide) ?_
      refine g_icmp_ge C (tgt := 118) dX2_setAside_16 (by decide) (fun c1 => ?_) (fun c1 => ?_)
      · skip
        refine g_aload_n C dX2_setAside_118 2 rfl rfl ?_
        refine g_get C 0 (f := 6) (v := .ref (g 7)) (Cn := RX2) (T := TX2) (N := 11) dX2_setAside_119 rfl rfl iX2_setAside_X2 (by decide) mX2_setAside_f30 rfl ?_
        refine g_iload_n C dX2_setAside_122 3 rfl rfl ?_
        refine g_iload_n C dX2_setAside_123 3 rfl rfl ?_
        refine g_iast C 7 0 (f := P1 7) (N := 64) (ws' := (wG cy g (z 0) (ps P1 7 b (nI b)) ++ (wZ cy z Z1))) b dX2_setAside_124 rfl rfl (by decide) (rfl) (by omega) (set_l (Nat.le_of_ble_eq_true rfl) (wG_a7 cy g (z 0) P1 b (nI b))) ?_
        exact ret ((ps P1 7 b (nI b)), Z1) _ _ dX2_setAside_125 (⟨RC_clr hr hb (by rw [i1]; exact i2), i2.2.2.2.2.2.2.2.1, i2.2.2.2.2.2.2.2.2, by rw [i1]; exact i3, by unfold AS.held; rw [i1]; exact i4⟩)
      · skip
        refine g_iload_n C dX2_setAside_19 0 rfl rfl ?_
        refine g_callIN C [] [0, 1, 2, 3, 4, 5, 6, 7, 8, 9, 10] [0, 1, 2, 3, 4, 5, 6, 7, 8, 9, 10] (As := [.int vNONE]) (rest := []) (wr := (wG cy g (z 0) P1 ++ (wZ cy z Z1))) (wf := fun _ => (wG cy g (z 0) P1 ++ (wZ cy z Z1))) dX2_setAside_20 gX2_setAside_X3_isPage_n61 rfl dmX3_isPage ⟨rfl, rfl, Nat.le_of_ble_eq_true rfl, Nat.le_of_ble_eq_true rfl, Nat.zero_le _, Nat.zero_le _⟩ rfl mX2_setAside_inX3_isPage mX2_setAside_stX3_isPage (c_X3_isPage l D cy cz vNONE) ⟨rfl, rfl, rfl, rfl, by decide, rfl, fun _ => rfl⟩ (Nat.le_of_ble_eq_true rfl) ?_
        rintro _ - rfl
        show G x l (rmF 2 72) D 5 0 0 (wG cy g (z 0) P1 ++ (wZ cy z Z1)) [(2, .int vNONE), (3, .int (nI dn.length)), (0, .ref (g 0)), (1, .int (nI b))] [.int (inI 128 vNONE)] 23
        refine g_top (b := 0) (inI_NONE _) ?_
        refine g_if_eq C (tgt := 118) dX2_setAside_23 (by decide) (fun c1 => ?_) (fun c1 => ?_)
        · skip
          refine g_aload_n C dX2_setAside_118 2 rfl rfl ?_
          refine g_get C 0 (f := 6) (v := .ref (g 7)) (Cn := RX2) (T := TX2) (N := 11) dX2_setAside_119 rfl rfl iX2_setAside_X2 (by decide) mX2_setAside_f30 rfl ?_
          refine g_iload_n C dX2_setAside_122 3 rfl rfl ?_
          refine g_iload_n C dX2_setAside_123 3 rfl rfl ?_
          refine g_iast C 7 0 (f := P1 7) (N := 64) (ws' := (wG cy g (z 0) (ps P1 7 b (nI b)) ++ (wZ cy z Z1))) b dX2_setAside_124 rfl rfl (by decide) (rfl) (by omega) (set_l (Nat.le_of_ble_eq_true rfl) (wG_a7 cy g (z 0) P1 b (nI b))) ?_
          exact ret ((ps P1 7 b (nI b)), Z1) _ _ dX2_setAside_125 (⟨RC_clr hr hb (by rw [i1]; exact i2), i2.2.2.2.2.2.2.2.1, i2.2.2.2.2.2.2.2.2, by rw [i1]; exact i3, by unfold AS.held; rw [i1]; exact i4⟩)
        · skip
          exact absurd rfl (c1)
    · skip
      obtain ⟨hq, hn, i5⟩ := i5
      have hlt : dn.length + (r.length + 1) ≤ 65 := hlt
      rw [i1] at hnd
      have hqd : ¬ q ∈ dn := fun w => (List.nodup_append.mp hnd).2.2 q w q List.mem_cons_self rfl
      have hz4 := hr.sz4 hq
      have hsum : sumL A.sz (A.ch b) = sumL A.sz dn + (A.sz q + sumL A.sz r) := by rw [i1, sumL_app]; rfl
      have hu : P1 3 q = nI (A.sz q) := by rw [i2.1 q, if_neg hqd]; exact hr.used hq
      have hbh : P1 4 q = hdI r := by rw [i2.2.1 q, if_neg hqd]; exact hn
      obtain ⟨-, -, -, -, e1, e2, -⟩ := id i2
      show G x l (rmF 2 72) D 5 0 0 (wG cy g (z 0) P1 ++ (wZ cy z Z1)) [(2, .int (nI q)), (3, .int (nI dn.length)), (0, .ref (g 0)), (1, .int (nI b))] [] 12
      refine g_iload_n C dX2_setAside_12 1 rfl rfl ?_
      refine g_sipush C (v := 128) dX2_setAside_13 (by decide) ?_
      refine g_icmp_ge C (tgt := 118) dX2_setAside_16 (by decide) (fun c2 => ?_) (fun c2 => ?_)
      · skip
        exact absurd c2 (nI_ge (a := dn.length) (b := 128) (by omega) (by decide))
      · skip
        refine g_iload_n C dX2_setAside_19 0 rfl rfl ?_
        refine g_callIN C [] [0, 1, 2, 3, 4, 5, 6, 7, 8, 9, 10] [0, 1, 2, 3, 4, 5, 6, 7, 8, 9, 10] (As := [.int (nI q)]) (rest := []) (wr := (wG cy g (z 0) P1 ++ (wZ cy z Z1))) (wf := fun _ => (wG cy g (z 0) P1 ++ (wZ cy z Z1))) dX2_setAside_20 gX2_setAside_X3_isPage_n61 rfl dmX3_isPage ⟨rfl, rfl, Nat.le_of_ble_eq_true rfl, Nat.le_of_ble_eq_true rfl, Nat.zero_le _, Nat.zero_le _⟩ rfl mX2_setAside_inX3_isPage mX2_setAside_stX3_isPage (c_X3_isPage l D cy cz (nI q)) ⟨rfl, rfl, rfl, rfl, by decide, rfl, fun _ => rfl⟩ (Nat.le_of_ble_eq_true rfl) ?_
        rintro _ - rfl
        show G x l (rmF 2 72) D 5 0 0 (wG cy g (z 0) P1 ++ (wZ cy z Z1)) [(2, .int (nI q)), (3, .int (nI dn.length)), (0, .ref (g 0)), (1, .int (nI b))] [.int (inI 128 (nI q))] 23
        refine g_top (b := 1) (inI_nI (N := 128) hq (by decide)) ?_
        refine g_if_eq C (tgt := 118) dX2_setAside_23 (by decide) (fun c1 => ?_) (fun c1 => ?_)
        · skip
          exact absurd c1 (by decide)
        · skip
          refine g_iconst C (v := 0) dX2_setAside_26 (by decide) ?_
          refine g_istore C (lv' := [(4, .int 0), (2, .int (nI q)), (3, .int (nI dn.length)), (0, .ref (g 0)), (1, .int (nI b))]) dX2_setAside_27 (by decide) rfl ?_
          refine g_loop (σ := Nat × Mem) (fun (a : Nat × Mem) => match a with | (i, Z2) => (wG cy g (z 0) P1 ++ (wZ cy z Z2))) (fun (a : Nat × Mem) => match a with | (i, Z2) => [(4, .int (nI i)), (2, .int (nI q)), (3, .int (nI dn.length)), (0, .ref (g 0)), (1, .int (nI b))]) (fun (a : Nat × Mem) => match a with | (i, Z2) => (i ≤ A.sz q) ∧ (RZ Z2 (h ++ A.heldL dn ++ A.hp q i))) (fun (a : Nat × Mem) => match a with | (i, Z2) => A.sz q - i) ?_ (0, Z1) (⟨Nat.zero_le _, by rw [show A.hp q 0 = [] from rfl, List.append_nil]; exact i4⟩)
          intro a hI ih2
          obtain ⟨i, Z2⟩ := a
          obtain ⟨k1, k2⟩ : (i ≤ A.sz q) ∧ (RZ Z2 (h ++ A.heldL dn ++ A.hp q i)) := hI
          show G x l (rmF 2 72) D 5 0 0 (wG cy g (z 0) P1 ++ (wZ cy z Z2)) [(4, .int (nI i)), (2, .int (nI q)), (3, .int (nI dn.length)), (0, .ref (g 0)), (1, .int (nI b))] [] 29
          refine g_iload C dX2_setAside_29 0 rfl ?_
          refine g_iconst C (v := 4) dX2_setAside_31 (by decide) ?_
          refine g_icmp_ge C (tgt := 81) dX2_setAside_32 (by decide) (fun c3 => ?_) (fun c3 => ?_)
          · skip
            have h3 : 4 ≤ i := (nI_leI (a := 4) (b := i) (by decide) (by omega)).mp c3
            have k3 : RZ Z2 (h ++ A.heldL (dn ++ [q])) := by rw [show i = A.sz q by omega] at k2; rw [heldL_app, show A.heldL [q] = A.hp q (A.sz q) ++ [] from rfl, List.append_nil, ← List.append_assoc]; exact k2
            refine g_aload_n C dX2_setAside_81 3 rfl rfl ?_
            refine g_dup C dX2_setAside_82 rfl ?_
            refine g_get C 0 (f := 10) (v := .int (P1 0 2)) (Cn := RX2) (T := TX2) (N := 11) dX2_setAside_83 rfl rfl iX2_setAside_X2 (by decide) mX2_setAside_f57 rfl ?_
            refine g_top (b := P 0 2 - nI (sumL A.sz dn)) (i3) ?_
            refine g_aload_n C dX2_setAside_86 3 rfl rfl ?_
            refine g_get C 0 (f := 2) (v := .ref (g 3)) (Cn := RX2) (T := TX2) (N := 11) dX2_setAside_87 rfl rfl iX2_setAside_X2 (by decide) mX2_setAside_f18 rfl ?_
            refine g_iload_n C dX2_setAside_90 1 rfl rfl ?_
            refine g_iald C 3 0 (f := P1 3) (N := 128) q dX2_setAside_91 rfl rfl (by decide) (rfl) (by omega) ?_
            refine g_top (b := nI (A.sz q)) (hu) ?_
            refine g_isub C dX2_setAside_92 ?_
            refine g_top (b := P 0 2 - nI (sumL A.sz (dn ++ [q]))) (by rw [sub_nI, sumL_app]; rfl) ?_
            refine g_put C 0 (f := 10) (v := .int (P 0 2 - nI (sumL A.sz (dn ++ [q])))) (ty := .int) (Cn := RX2) (T := TX2) (N := 11) (ws' := (wG cy g (z 0) (ps P1 0 2 (P 0 2 - nI (sumL A.sz (dn ++ [q])))) ++ (wZ cy z Z2))) dX2_setAside_93 rfl rfl iX2_setAside_X2 tyX2 tyX2_ok nmX2 (by decide) mX2_setAside_f57 rfl rfl (rfl) (rfl) (Nat.le_of_ble_eq_true rfl) (set_l (Nat.le_of_ble_eq_true rfl) (wG_s2 cy g (z 0) P1 (P 0 2 - nI (sumL A.sz (dn ++ [q]))))) ?_
            refine g_aload_n C dX2_setAside_96 3 rfl rfl ?_
            refine g_get C 0 (f := 3) (v := .ref (g 4)) (Cn := RX2) (T := TX2) (N := 11) dX2_setAside_97 rfl rfl iX2_setAside_X2 (by decide) mX2_setAside_f21 rfl ?_
            refine g_iload_n C dX2_setAside_100 1 rfl rfl ?_
            refine g_iald C 4 0 (f := P1 4) (N := 128) q dX2_setAside_101 rfl rfl (by decide) (rfl) (by omega) ?_
            refine g_top (b := hdI r) (hbh) ?_
            refine g_istore C (lv' := [(4, .int (hdI r)), (2, .int (nI q)), (3, .int (nI dn.length)), (0, .ref (g 0)), (1, .int (nI b))]) dX2_setAside_102 (by decide) rfl ?_
            refine g_aload_n C dX2_setAside_104 3 rfl rfl ?_
            refine g_iload_n C dX2_setAside_105 1 rfl rfl ?_
            refine g_callVV C [0, 1, 2, 3, 4, 5, 6, 7] [8, 9, 10] [3, 4, 5, 6, 7, 8, 9, 10, 0, 1, 2] 0 2 (b := g 0) rfl rfl (As := [.int (nI q)]) (rest := []) (wr := (wZ cy z Z2)) (wf := fun _ => (wG cy g (z 0) (clrP (ps P1 0 2 (P 0 2 - nI (sumL A.sz (dn ++ [q])))) q) ++ (wZ cy z Z2))) dX2_setAside_106 gX2_setAside_X2_clearPage rfl dmX2_clearPage ⟨rfl, rfl, Nat.le_of_ble_eq_true rfl, Nat.le_of_ble_eq_true rfl, Nat.zero_le _, Nat.zero_le _⟩ (c_X2_clearPage l D cy cz g (z 0) (ps P1 0 2 (P 0 2 - nI (sumL A.sz (dn ++ [q])))) q hq) ⟨rfl, rfl, rfl, rfl, by decide, rfl, fun _ => rfl⟩ (Nat.le_of_ble_eq_true rfl) ?_
            rintro - -
            show G x l (rmF 2 72) D 5 0 0 (wG cy g (z 0) (clrP (ps P1 0 2 (P 0 2 - nI (sumL A.sz (dn ++ [q])))) q) ++ (wZ cy z Z2)) [(4, .int (hdI r)), (2, .int (nI q)), (3, .int (nI dn.length)), (0, .ref (g 0)), (1, .int (nI b))] [] 109
            refine g_iload C dX2_setAside_109 0 rfl ?_
            refine g_istore_n C (lv' := [(2, .int (hdI r)), (4, .int (hdI r)), (3, .int (nI dn.length)), (0, .ref (g 0)), (1, .int (nI b))]) dX2_setAside_111 rfl (by decide) rfl ?_
            refine g_iinc C (q := 2) (v := nI (dn ++ [q]).length) (lv' := [(3, .int (nI (dn ++ [q]).length)), (2, .int (hdI r)), (4, .int (hdI r)), (0, .ref (g 0)), (1, .int (nI b))]) dX2_setAside_112 rfl (by rw [List.length_append]; exact nI_1 _) (by decide) rfl ?_
            refine g_goto C (tgt := 12) dX2_setAside_115 (by decide) ?_
            refine g_lv (lv' := [(2, .int (hdI r)), (3, .int (nI (dn ++ [q]).length)), (0, .ref (g 0)), (1, .int (nI b))]) [1, 0, 3, 4] rfl ?_
            exact ih (dn ++ [q], r, clrP (ps P1 0 2 (P 0 2 - nI (sumL A.sz (dn ++ [q])))) q, Z2) ⟨by rw [i1, List.append_assoc]; rfl, CLR_step i2, rfl, k3, i5⟩ (Nat.lt_succ_self _)
          · skip
            refine g_iload C dX2_setAside_35 0 rfl ?_
            refine g_aload_n C dX2_setAside_37 3 rfl rfl ?_
            refine g_get C 0 (f := 2) (v := .ref (g 3)) (Cn := RX2) (T := TX2) (N := 11) dX2_setAside_38 rfl rfl iX2_setAside_X2 (by decide) mX2_setAside_f18 rfl ?_
            refine g_iload_n C dX2_setAside_41 1 rfl rfl ?_
            refine g_iald C 3 0 (f := P1 3) (N := 128) q dX2_setAside_42 rfl rfl (by decide) (rfl) (by omega) ?_
            refine g_top (b := nI (A.sz q)) (hu) ?_
            refine g_icmp_ge C (tgt := 81) dX2_setAside_43 (by decide) (fun c4 => ?_) (fun c4 => ?_)
            · skip
              have h3 : A.sz q ≤ i := (nI_leI (by omega) (by omega)).mp c4
              have k3 : RZ Z2 (h ++ A.heldL (dn ++ [q])) := by rw [show i = A.sz q by omega] at k2; rw [heldL_app, show A.heldL [q] = A.hp q (A.sz q) ++ [] from rfl, List.append_nil, ← List.append_assoc]; exact k2
              refine g_aload_n C dX2_setAside_81 3 rfl rfl ?_
              refine g_dup C dX2_setAside_82 rfl ?_
              refine g_get C 0 (f := 10) (v := .int (P1 0 2)) (Cn := RX2) (T := TX2) (N := 11) dX2_setAside_83 rfl rfl iX2_setAside_X2 (by decide) mX2_setAside_f57 rfl ?_
              refine g_top (b := P 0 2 - nI (sumL A.sz dn)) (i3) ?_
              refine g_aload_n C dX2_setAside_86 3 rfl rfl ?_
              refine g_get C 0 (f := 2) (v := .ref (g 3)) (Cn := RX2) (T := TX2) (N := 11) dX2_setAside_87 rfl rfl iX2_setAside_X2 (by decide) mX2_setAside_f18 rfl ?_
              refine g_iload_n C dX2_setAside_90 1 rfl rfl ?_
              refine g_iald C 3 0 (f := P1 3) (N := 128) q dX2_setAside_91 rfl rfl (by decide) (rfl) (by omega) ?_
              refine g_top (b := nI (A.sz q)) (hu) ?_
              refine g_isub C dX2_setAside_92 ?_
              refine g_top (b := P 0 2 - nI (sumL A.sz (dn ++ [q]))) (by rw [sub_nI, sumL_app]; rfl) ?_
              refine g_put C 0 (f := 10) (v := .int (P 0 2 - nI (sumL A.sz (dn ++ [q])))) (ty := .int) (Cn := RX2) (T := TX2) (N := 11) (ws' := (wG cy g (z 0) (ps P1 0 2 (P 0 2 - nI (sumL A.sz (dn ++ [q])))) ++ (wZ cy z Z2))) dX2_setAside_93 rfl rfl iX2_setAside_X2 tyX2 tyX2_ok nmX2 (by decide) mX2_setAside_f57 rfl rfl (rfl) (rfl) (Nat.le_of_ble_eq_true rfl) (set_l (Nat.le_of_ble_eq_true rfl) (wG_s2 cy g (z 0) P1 (P 0 2 - nI (sumL A.sz (dn ++ [q]))))) ?_
              refine g_aload_n C dX2_setAside_96 3 rfl rfl ?_
              refine g_get C 0 (f := 3) (v := .ref (g 4)) (Cn := RX2) (T := TX2) (N := 11) dX2_setAside_97 rfl rfl iX2_setAside_X2 (by decide) mX2_setAside_f21 rfl ?_
              refine g_iload_n C dX2_setAside_100 1 rfl rfl ?_
              refine g_iald C 4 0 (f := P1 4) (N := 128) q dX2_setAside_101 rfl rfl (by decide) (rfl) (by omega) ?_
              refine g_top (b := hdI r) (hbh) ?_
              refine g_istore C (lv' := [(4, .int (hdI r)), (2, .int (nI q)), (3, .int (nI dn.length)), (0, .ref (g 0)), (1, .int (nI b))]) dX2_setAside_102 (by decide) rfl ?_
              refine g_aload_n C dX2_setAside_104 3 rfl rfl ?_
              refine g_iload_n C dX2_setAside_105 1 rfl rfl ?_
              refine g_callVV C [0, 1, 2, 3, 4, 5, 6, 7] [8, 9, 10] [3, 4, 5, 6, 7, 8, 9, 10, 0, 1, 2] 0 2 (b := g 0) rfl rfl (As := [.int (nI q)]) (rest := []) (wr := (wZ cy z Z2)) (wf := fun _ => (wG cy g (z 0) (clrP (ps P1 0 2 (P 0 2 - nI (sumL A.sz (dn ++ [q])))) q) ++ (wZ cy z Z2))) dX2_setAside_106 gX2_setAside_X2_clearPage rfl dmX2_clearPage ⟨rfl, rfl, Nat.le_of_ble_eq_true rfl, Nat.le_of_ble_eq_true rfl, Nat.zero_le _, Nat.zero_le _⟩ (c_X2_clearPage l D cy cz g (z 0) (ps P1 0 2 (P 0 2 - nI (sumL A.sz (dn ++ [q])))) q hq) ⟨rfl, rfl, rfl, rfl, by decide, rfl, fun _ => rfl⟩ (Nat.le_of_ble_eq_true rfl) ?_
              rintro - -
              show G x l (rmF 2 72) D 5 0 0 (wG cy g (z 0) (clrP (ps P1 0 2 (P 0 2 - nI (sumL A.sz (dn ++ [q])))) q) ++ (wZ cy z Z2)) [(4, .int (hdI r)), (2, .int (nI q)), (3, .int (nI dn.length)), (0, .ref (g 0)), (1, .int (nI b))] [] 109
              refine g_iload C dX2_setAside_109 0 rfl ?_
              refine g_istore_n C (lv' := [(2, .int (hdI r)), (4, .int (hdI r)), (3, .int (nI dn.length)), (0, .ref (g 0)), (1, .int (nI b))]) dX2_setAside_111 rfl (by decide) rfl ?_
              refine g_iinc C (q := 2) (v := nI (dn ++ [q]).length) (lv' := [(3, .int (nI (dn ++ [q]).length)), (2, .int (hdI r)), (4, .int (hdI r)), (0, .ref (g 0)), (1, .int (nI b))]) dX2_setAside_112 rfl (by rw [List.length_append]; exact nI_1 _) (by decide) rfl ?_
              refine g_goto C (tgt := 12) dX2_setAside_115 (by decide) ?_
              refine g_lv (lv' := [(2, .int (hdI r)), (3, .int (nI (dn ++ [q]).length)), (0, .ref (g 0)), (1, .int (nI b))]) [1, 0, 3, 4] rfl ?_
              exact ih (dn ++ [q], r, clrP (ps P1 0 2 (P 0 2 - nI (sumL A.sz (dn ++ [q])))) q, Z2) ⟨by rw [i1, List.append_assoc]; rfl, CLR_step i2, rfl, k3, i5⟩ (Nat.lt_succ_self _)
            · skip
              have h3 : i < A.sz q := Nat.lt_of_not_le (fun w => c4 (nI_le w (by omega)))
              refine g_aload_n C dX2_setAside_46 3 rfl rfl ?_
              refine g_get C 0 (f := 7) (v := .ref (z 0)) (Cn := RX2) (T := TX2) (N := 11) dX2_setAside_47 rfl rfl iX2_setAside_X2 (by decide) mX2_setAside_f33 rfl ?_
              refine g_aload_n C dX2_setAside_50 3 rfl rfl ?_
              refine g_get C 0 (f := 0) (v := .ref (g 1)) (Cn := RX2) (T := TX2) (N := 11) dX2_setAside_51 rfl rfl iX2_setAside_X2 (by decide) mX2_setAside_f9 rfl ?_
              refine g_iload_n C dX2_setAside_54 1 rfl rfl ?_
              refine g_iconst C (v := 4) dX2_setAside_55 (by decide) ?_
              refine g_imul C dX2_setAside_56 ?_
              refine g_top (b := nI (q * 4)) (pk_mul q 4) ?_
              refine g_iload C dX2_setAside_57 0 rfl ?_
              refine g_iadd C dX2_setAside_59 ?_
              refine g_top (b := nI (q * 4 + i)) (nI_add _ _) ?_
              refine g_iald C 1 0 (f := P1 1) (N := 512) (q * 4 + i) dX2_setAside_60 rfl rfl (by decide) (rfl) (by omega) ?_
              refine g_top (b := A.ks (q * 4 + i)) (by rw [e1]; exact hr.key hq h3) ?_
              refine g_aload_n C dX2_setAside_61 3 rfl rfl ?_
              refine g_get C 0 (f := 1) (v := .ref (g 2)) (Cn := RX2) (T := TX2) (N := 11) dX2_setAside_62 rfl rfl iX2_setAside_X2 (by decide) mX2_setAside_f15 rfl ?_
              refine g_iload_n C dX2_setAside_65 1 rfl rfl ?_
              refine g_iconst C (v := 4) dX2_setAside_66 (by decide) ?_
              refine g_imul C dX2_setAside_67 ?_
              refine g_top (b := nI (q * 4)) (pk_mul q 4) ?_
              refine g_iload C dX2_setAside_68 0 rfl ?_
              refine g_iadd C dX2_setAside_70 ?_
              refine g_top (b := nI (q * 4 + i)) (nI_add _ _) ?_
              refine g_iald C 2 0 (f := P1 2) (N := 512) (q * 4 + i) dX2_setAside_71 rfl rfl (by decide) (rfl) (by omega) ?_
              refine g_top (b := A.vs (q * 4 + i)) (by rw [e2]; exact hr.val hq h3) ?_
              refine g_callVV C [8, 9, 10] [0, 1, 2, 3, 4, 5, 6, 7] [0, 1, 2, 3, 4, 5, 6, 7, 8, 9, 10] 0 0 (b := z 0) rfl rfl (As := [.int (A.ks (q * 4 + i)), .int (A.vs (q * 4 + i))]) (rest := []) (wr := (wG cy g (z 0) P1)) (wf := fun Z3 => (wG cy g (z 0) P1 ++ (wZ cy z Z3))) dX2_setAside_72 gX2_setAside_X0_push rfl dmX0_push ⟨rfl, rfl, Nat.le_of_ble_eq_true rfl, Nat.le_of_ble_eq_true rfl, Nat.zero_le _, Nat.zero_le _⟩ (c_X0_push l D cy cz z Z2 (h ++ A.heldL dn ++ A.hp q i) (A.ks (q * 4 + i)) (A.vs (q * 4 + i)) k2 (by rw [List.length_append, List.length_append, heldL_len, hp_len]; omega)) ⟨rfl, rfl, rfl, rfl, by decide, rfl, fun _ => rfl⟩ (Nat.le_of_ble_eq_true rfl) ?_
              intro Z3 hp3
              show G x l (rmF 2 72) D 5 0 0 (wG cy g (z 0) P1 ++ (wZ cy z Z3)) [(4, .int (nI i)), (2, .int (nI q)), (3, .int (nI dn.length)), (0, .ref (g 0)), (1, .int (nI b))] [] 75
              refine g_iinc C (q := 0) (v := nI (i + 1)) (lv' := [(4, .int (nI (i + 1))), (2, .int (nI q)), (3, .int (nI dn.length)), (0, .ref (g 0)), (1, .int (nI b))]) dX2_setAside_75 rfl (nI_1 i) (by decide) rfl ?_
              refine g_goto C (tgt := 29) dX2_setAside_78 (by decide) ?_
              exact ih2 (i + 1, Z3) ⟨by omega, by rw [hp_succ, ← List.append_assoc]; exact hp3⟩ (by show A.sz q - (i + 1) < A.sz q - i; omega)
  · skip
    exact absurd c0 (by decide)
