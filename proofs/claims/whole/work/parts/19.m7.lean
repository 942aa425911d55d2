/-! made by wip/whole/gen.py and m1.py -/
theorem mX2_carryOut_k37 : Cond.constant RX2 37 (-2000000005) ∈ wsX2_carryOut := List.mem_of_getElem? (i := 1) rfl
theorem mX2_carryOut_f57 : Cond.fieldLink RX2 57 (TX2 10).1 (TX2 10).2.1 (TX2 10).2.2.1 ∈ wsX2_carryOut := List.mem_of_getElem? (i := 2) rfl
theorem iX2_carryOut_X2 : ∀ w ∈ wsX20, w ∈ wsX2_carryOut := by decide +kernel
set_option maxHeartbeats 1600000 in
set_option maxRecDepth 20000 in
theorem c_X2_carryOut_put (l : Launch) (D : va_G) (cy cz : ClassId) (g : Nat → Nat) (z : Nat → Nat) (P : Mem) (Z : Mem) (A : AS) (key : Int32) (v : Int32) (hr : RP A P) (hm : A.fnd key = none → A.rm (A.ad key)) : MV l yX2_carryOut wsX2_carryOut (rmF 4 144) D (tyL cy cz) [.ref (g 0), .int 0, .int key, .int v] (wG cy g (z 0) P ++ (wZ cy z Z)) (fun (u : Mem × Mem) => RP (A.put (P 0 2) key v).1 u.1 ∧ u.1 0 2 = (A.put (P 0 2) key v).2) (fun u => (wG cy g (z 0) u.1 ++ (wZ cy z u.2))) := by
  refine g_entV (cc := cX2_carryOut) (maxL := 5) (own := RX2) (by decide) rfl rfl (Nat.le_of_ble_eq_true rfl) (fun x C ret => ?_)
  show G x l (rmF 4 144) D 5 0 0 (wG cy g (z 0) P ++ (wZ cy z Z)) [(0, .ref (g 0)), (1, .int 0), (2, .int key), (3, .int v)] [] 0
  refine g_aload_n C dX2_carryOut_0 0 rfl rfl ?_
  refine g_iload_n C dX2_carryOut_1 2 rfl rfl ?_
  refine g_callIV C [0, 1, 2, 3, 4, 5, 6, 7] [8, 9, 10] [3, 4, 5, 6, 7, 8, 9, 10, 0, 1, 2] 0 2 (b := g 0) rfl rfl (As := [.int key]) (rest := []) (wr := (wZ cy z Z)) (wf := fun _ => (wG cy g (z 0) P ++ (wZ cy z Z))) dX2_carryOut_2 gX2_carryOut_X2_find rfl dmX2_find ⟨rfl, rfl, Nat.le_of_ble_eq_true rfl, Nat.le_of_ble_eq_true rfl, Nat.zero_le _, Nat.zero_le _⟩ (c_X2_find l D cy cz g (z 0) P A key hr) ⟨rfl, rfl, rfl, rfl, by decide, rfl, fun _ => rfl⟩ (Nat.le_of_ble_eq_true rfl) ?_
  rintro _ - rfl
  show G x l (rmF 4 144) D 5 0 0 (wG cy g (z 0) P ++ (wZ cy z Z)) [(0, .ref (g 0)), (1, .int 0), (2, .int key), (3, .int v)] [.int (ocI (A.fnd key))] 5
  rcases hf : A.fnd key with _ | c
  · skip
    show G x l (rmF 4 144) D 5 0 0 (wG cy g (z 0) P ++ (wZ cy z Z)) [(0, .ref (g 0)), (1, .int 0), (2, .int key), (3, .int v)] [.int vNONE] 5
    refine g_istore C (lv' := [(4, .int vNONE), (0, .ref (g 0)), (1, .int 0), (2, .int key), (3, .int v)]) dX2_carryOut_5 (by decide) rfl ?_
    refine g_iload_n C dX2_carryOut_7 2 rfl rfl ?_
    refine g_if_ne C (tgt := 58) dX2_carryOut_8 (by decide) (fun c1 => ?_) (fun c1 => ?_)
    · skip
      exact absurd rfl (c1)
    · skip
      refine g_iload C dX2_carryOut_11 0 rfl ?_
      refine g_ldc C (v := vNONE) mX2_carryOut_k37 dX2_carryOut_13 ?_
      refine g_icmp_ne C (tgt := 58) dX2_carryOut_15 (by decide) (fun c2 => ?_) (fun c2 => ?_)
      · skip
        exact absurd rfl (c2)
      · skip
        refine g_aload_n C dX2_carryOut_18 1 rfl rfl ?_
        refine g_aload_n C dX2_carryOut_19 1 rfl rfl ?_
        refine g_iload_n C dX2_carryOut_20 3 rfl rfl ?_
        refine g_callIV C [0, 1, 2, 3, 4, 5, 6, 7] [8, 9, 10] [3, 4, 5, 6, 7, 8, 9, 10, 0, 1, 2] 0 2 (b := g 0) rfl rfl (As := [.int key]) (rest := [.ref (g 0)]) (wr := (wZ cy z Z)) (wf := fun _ => (wG cy g (z 0) P ++ (wZ cy z Z))) dX2_carryOut_21 gX2_carryOut_X2_addressOf rfl dmX2_addressOf ⟨rfl, rfl, Nat.le_of_ble_eq_true rfl, Nat.le_of_ble_eq_true rfl, Nat.zero_le _, Nat.zero_le _⟩ (c_X2_addressOf l D cy cz g (z 0) P A.L A.S key hr.2.2.1 hr.2.2.2 hr.2.1.1 hr.S64) ⟨rfl, rfl, rfl, rfl, by decide, rfl, fun _ => rfl⟩ (Nat.le_of_ble_eq_true rfl) ?_
        rintro _ - rfl
        show G x l (rmF 4 144) D 5 0 0 (wG cy g (z 0) P ++ (wZ cy z Z)) [(4, .int vNONE), (0, .ref (g 0)), (1, .int 0), (2, .int key), (3, .int v)] [.int (nI (adr A.L A.S key)), .ref (g 0)] 24
        refine g_top (b := nI (A.ad key)) (rfl) ?_
        refine g_iload_n C dX2_carryOut_24 3 rfl rfl ?_
        refine g_iload_n C dX2_carryOut_25 4 rfl rfl ?_
        refine g_callVV C [0, 1, 2, 3, 4, 5, 6, 7] [8, 9, 10] [3, 4, 5, 6, 7, 8, 9, 10, 0, 1, 2] 0 2 (b := g 0) rfl rfl (As := [.int (nI (A.ad key)), .int key, .int v]) (rest := []) (wr := (wZ cy z Z)) (wf := fun P1 => (wG cy g (z 0) P1 ++ (wZ cy z Z))) dX2_carryOut_26 gX2_carryOut_X2_append rfl dmX2_append ⟨rfl, rfl, Nat.le_of_ble_eq_true rfl, Nat.le_of_ble_eq_true rfl, Nat.zero_le _, Nat.zero_le _⟩ (c_X2_append l D cy cz g (z 0) P A (A.ad key) key v hr.1 (hr.adlt key) (hm hf)) ⟨rfl, rfl, rfl, rfl, by decide, rfl, fun _ => rfl⟩ (Nat.le_of_ble_eq_true rfl) ?_
        intro P1 hp1
        show G x l (rmF 4 144) D 5 0 0 (wG cy g (z 0) P1 ++ (wZ cy z Z)) [(4, .int vNONE), (0, .ref (g 0)), (1, .int 0), (2, .int key), (3, .int v)] [] 29
        have hA1 := RP_add hr (hm hf) hp1.1 hp1.2.1 hp1.2.2.1
        have hnb : (A.add (A.ad key) key v).nb = A.nb := by unfold AS.nb; rw [(add_LS _ _ _ _).1, (add_LS _ _ _ _).2]
        have n64 := hr.nb64
        refine g_aload_n C dX2_carryOut_29 1 rfl rfl ?_
        refine g_get C 0 (f := 10) (v := .int (P1 0 2)) (Cn := RX2) (T := TX2) (N := 11) dX2_carryOut_30 rfl rfl iX2_carryOut_X2 (by decide) mX2_carryOut_f57 rfl ?_
        refine g_top (b := P 0 2 + 1) (hp1.2.2.2) ?_
        refine g_iconst C (v := 3) dX2_carryOut_33 (by decide) ?_
        refine g_aload_n C dX2_carryOut_34 1 rfl rfl ?_
        refine g_callIV C [0, 1, 2, 3, 4, 5, 6, 7] [8, 9, 10] [3, 4, 5, 6, 7, 8, 9, 10, 0, 1, 2] 0 2 (b := g 0) rfl rfl (As := []) (rest := [.int 3, .int (P 0 2 + 1)]) (wr := (wZ cy z Z)) (wf := fun _ => (wG cy g (z 0) P1 ++ (wZ cy z Z))) dX2_carryOut_35 gX2_carryOut_X2_bucketCount rfl dmX2_bucketCount ⟨rfl, rfl, Nat.le_of_ble_eq_true rfl, Nat.le_of_ble_eq_true rfl, Nat.zero_le _, Nat.zero_le _⟩ (c_X2_bucketCount l D cy cz g (z 0) P1) ⟨rfl, rfl, rfl, rfl, by decide, rfl, fun _ => rfl⟩ (Nat.le_of_ble_eq_true rfl) ?_
        rintro _ - rfl
        show G x l (rmF 4 144) D 5 0 0 (wG cy g (z 0) P1 ++ (wZ cy z Z)) [(4, .int vNONE), (0, .ref (g 0)), (1, .int 0), (2, .int key), (3, .int v)] [.int ((4 <<< (P1 0 0 &&& 31)) + P1 0 1), .int 3, .int (P 0 2 + 1)] 38
        refine g_top (b := nI A.nb) (hA1.nb.trans (congrArg nI hnb)) ?_
        refine g_imul C dX2_carryOut_38 ?_
        refine g_icmp_le C (tgt := 117) dX2_carryOut_39 (by decide) (fun c3 => ?_) (fun c3 => ?_)
        · skip
          exact ret (P1, Z) _ _ dX2_carryOut_117 (by unfold AS.put; rw [hf]; show RP (if _ then _ else _ : AS × Int32).1 _ ∧ _ = (if _ then _ else _ : AS × Int32).2; rw [if_neg (fun w => absurd w.1 (Int32.not_lt.mpr c3))]; exact ⟨hA1, hp1.2.2.2⟩)
        · skip
          refine g_aload_n C dX2_carryOut_42 1 rfl rfl ?_
          refine g_callIV C [0, 1, 2, 3, 4, 5, 6, 7] [8, 9, 10] [3, 4, 5, 6, 7, 8, 9, 10, 0, 1, 2] 0 2 (b := g 0) rfl rfl (As := []) (rest := []) (wr := (wZ cy z Z)) (wf := fun _ => (wG cy g (z 0) P1 ++ (wZ cy z Z))) dX2_carryOut_43 gX2_carryOut_X2_bucketCount rfl dmX2_bucketCount ⟨rfl, rfl, Nat.le_of_ble_eq_true rfl, Nat.le_of_ble_eq_true rfl, Nat.zero_le _, Nat.zero_le _⟩ (c_X2_bucketCount l D cy cz g (z 0) P1) ⟨rfl, rfl, rfl, rfl, by decide, rfl, fun _ => rfl⟩ (Nat.le_of_ble_eq_true rfl) ?_
          rintro _ - rfl
          show G x l (rmF 4 144) D 5 0 0 (wG cy g (z 0) P1 ++ (wZ cy z Z)) [(4, .int vNONE), (0, .ref (g 0)), (1, .int 0), (2, .int key), (3, .int v)] [.int ((4 <<< (P1 0 0 &&& 31)) + P1 0 1)] 46
          refine g_top (b := nI A.nb) (hA1.nb.trans (congrArg nI hnb)) ?_
          refine g_bipush C (v := 64) dX2_carryOut_46 (by decide) ?_
          refine g_icmp_ge C (tgt := 117) dX2_carryOut_48 (by decide) (fun c4 => ?_) (fun c4 => ?_)
          · skip
            exact ret (P1, Z) _ _ dX2_carryOut_117 (by unfold AS.put; rw [hf]; show RP (if _ then _ else _ : AS × Int32).1 _ ∧ _ = (if _ then _ else _ : AS × Int32).2; rw [if_neg (fun w => absurd c4 (nI_ge w.2 (by decide)))]; exact ⟨hA1, hp1.2.2.2⟩)
          · skip
            have hn : A.nb < 64 := Nat.lt_of_not_le (fun w => c4 (nI_le w (by omega)))
            refine g_aload_n C dX2_carryOut_51 1 rfl rfl ?_
            refine g_callVV C [0, 1, 2, 3, 4, 5, 6, 7, 8, 9, 10] [] [0, 1, 2, 3, 4, 5, 6, 7, 8, 9, 10] 0 2 (b := g 0) rfl rfl (As := []) (rest := []) (wr := ([] : va_W)) (wf := fun u2 => (wG cy g (z 0) u2.1 ++ (wZ cy z u2.2))) dX2_carryOut_52 gX2_carryOut_X2_grow rfl dmX2_grow ⟨rfl, rfl, Nat.le_of_ble_eq_true rfl, Nat.le_of_ble_eq_true rfl, Nat.zero_le _, Nat.zero_le _⟩ (c_X2_grow l D cy cz g z P1 Z (A.add (A.ad key) key v) hA1 (by rw [hnb]; exact hn)) ⟨rfl, rfl, rfl, rfl, by decide, rfl, fun _ => rfl⟩ (Nat.le_of_ble_eq_true rfl) ?_
            intro u2 hp2
            show G x l (rmF 4 144) D 5 0 0 (wG cy g (z 0) u2.1 ++ (wZ cy z u2.2)) [(4, .int vNONE), (0, .ref (g 0)), (1, .int 0), (2, .int key), (3, .int v)] [] 55
            refine g_goto C (tgt := 117) dX2_carryOut_55 (by decide) ?_
            exact ret u2 _ _ dX2_carryOut_117 (by unfold AS.put; rw [hf]; show RP (if _ then _ else _ : AS × Int32).1 _ ∧ _ = (if _ then _ else _ : AS × Int32).2; rw [if_pos ⟨Int32.not_le.mp c3, hn⟩]; exact ⟨hp2.1, hp2.2.trans hp1.2.2.2⟩)
  · skip
    have hlive := (fnd_live hf).1
    have hc5 : c < 512 := fnd_lt hr.1.1 hr.2.1 hf
    show G x l (rmF 4 144) D 5 0 0 (wG cy g (z 0) P ++ (wZ cy z Z)) [(0, .ref (g 0)), (1, .int 0), (2, .int key), (3, .int v)] [.int (nI c)] 5
    refine g_istore C (lv' := [(4, .int (nI c)), (0, .ref (g 0)), (1, .int 0), (2, .int key), (3, .int v)]) dX2_carryOut_5 (by decide) rfl ?_
    refine g_iload_n C dX2_carryOut_7 2 rfl rfl ?_
    refine g_if_ne C (tgt := 58) dX2_carryOut_8 (by decide) (fun c1 => ?_) (fun c1 => ?_)
    · skip
      exact absurd rfl (c1)
    · skip
      refine g_iload C dX2_carryOut_11 0 rfl ?_
      refine g_ldc C (v := vNONE) mX2_carryOut_k37 dX2_carryOut_13 ?_
      refine g_icmp_ne C (tgt := 58) dX2_carryOut_15 (by decide) (fun c2 => ?_) (fun c2 => ?_)
      · skip
        refine g_iload_n C dX2_carryOut_58 2 rfl rfl ?_
        refine g_if_ne C (tgt := 72) dX2_carryOut_59 (by decide) (fun c3 => ?_) (fun c3 => ?_)
        · skip
          exact absurd rfl (c3)
        · skip
          refine g_aload_n C dX2_carryOut_62 1 rfl rfl ?_
          refine g_iload C dX2_carryOut_63 0 rfl ?_
          refine g_iload_n C dX2_carryOut_65 4 rfl rfl ?_
          refine g_callVV C [0, 1, 2, 3, 4, 5, 6, 7] [8, 9, 10] [3, 4, 5, 6, 7, 8, 9, 10, 0, 1, 2] 0 2 (b := g 0) rfl rfl (As := [.int (nI c), .int v]) (rest := []) (wr := (wZ cy z Z)) (wf := fun _ => (wG cy g (z 0) (ps P 2 c v) ++ (wZ cy z Z))) dX2_carryOut_66 gX2_carryOut_X2_setValue rfl dmX2_setValue ⟨rfl, rfl, Nat.le_of_ble_eq_true rfl, Nat.le_of_ble_eq_true rfl, Nat.zero_le _, Nat.zero_le _⟩ (c_X2_setValue l D cy cz g (z 0) P c v hc5) ⟨rfl, rfl, rfl, rfl, by decide, rfl, fun _ => rfl⟩ (Nat.le_of_ble_eq_true rfl) ?_
          rintro - -
          show G x l (rmF 4 144) D 5 0 0 (wG cy g (z 0) (ps P 2 c v) ++ (wZ cy z Z)) [(4, .int (nI c)), (0, .ref (g 0)), (1, .int 0), (2, .int key), (3, .int v)] [] 69
          refine g_goto C (tgt := 117) dX2_carryOut_69 (by decide) ?_
          exact ret ((ps P 2 c v), Z) _ _ dX2_carryOut_117 (by unfold AS.put; rw [hf]; exact ⟨RP_setV hr c v, rfl⟩)
      · skip
        exact absurd c2 (NONE_nI (by omega))

set_option maxHeartbeats 1600000 in
set_option maxRecDepth 20000 in
theorem c_X2_carryOut_rem (l : Launch) (D : va_G) (cy cz : ClassId) (g : Nat → Nat) (z : Nat → Nat) (P : Mem) (Z : Mem) (A : AS) (key : Int32) (v : Int32) (hr : RP A P) : MV l yX2_carryOut wsX2_carryOut (rmF 4 144) D (tyL cy cz) [.ref (g 0), .int 1, .int key, .int v] (wG cy g (z 0) P ++ (wZ cy z Z)) (fun (u : Mem × Mem) => RP (A.rem (P 0 2) key).1 u.1 ∧ u.1 0 2 = (A.rem (P 0 2) key).2) (fun u => (wG cy g (z 0) u.1 ++ (wZ cy z u.2))) := by
  refine g_entV (cc := cX2_carryOut) (maxL := 5) (own := RX2) (by decide) rfl rfl (Nat.le_of_ble_eq_true rfl) (fun x C ret => ?_)
  show G x l (rmF 4 144) D 5 0 0 (wG cy g (z 0) P ++ (wZ cy z Z)) [(0, .ref (g 0)), (1, .int 1), (2, .int key), (3, .int v)] [] 0
  refine g_aload_n C dX2_carryOut_0 0 rfl rfl ?_
  refine g_iload_n C dX2_carryOut_1 2 rfl rfl ?_
  refine g_callIV C [0, 1, 2, 3, 4, 5, 6, 7] [8, 9, 10] [3, 4, 5, 6, 7, 8, 9, 10, 0, 1, 2] 0 2 (b := g 0) rfl rfl (As := [.int key]) (rest := []) (wr := (wZ cy z Z)) (wf := fun _ => (wG cy g (z 0) P ++ (wZ cy z Z))) dX2_carryOut_2 gX2_carryOut_X2_find rfl dmX2_find ⟨rfl, rfl, Nat.le_of_ble_eq_true rfl, Nat.le_of_ble_eq_true rfl, Nat.zero_le _, Nat.zero_le _⟩ (c_X2_find l D cy cz g (z 0) P A key hr) ⟨rfl, rfl, rfl, rfl, by decide, rfl, fun _ => rfl⟩ (Nat.le_of_ble_eq_true rfl) ?_
  rintro _ - rfl
  show G x l (rmF 4 144) D 5 0 0 (wG cy g (z 0) P ++ (wZ cy z Z)) [(0, .ref (g 0)), (1, .int 1), (2, .int key), (3, .int v)] [.int (ocI (A.fnd key))] 5
  rcases hf : A.fnd key with _ | c
  · skip
    show G x l (rmF 4 144) D 5 0 0 (wG cy g (z 0) P ++ (wZ cy z Z)) [(0, .ref (g 0)), (1, .int 1), (2, .int key), (3, .int v)] [.int vNONE] 5
    refine g_istore C (lv' := [(4, .int vNONE), (0, .ref (g 0)), (1, .int 1), (2, .int key), (3, .int v)]) dX2_carryOut_5 (by decide) rfl ?_
    refine g_iload_n C dX2_carryOut_7 2 rfl rfl ?_
    refine g_if_ne C (tgt := 58) dX2_carryOut_8 (by decide) (fun c1 => ?_) (fun c1 => ?_)
    · skip
      refine g_iload_n C dX2_carryOut_58 2 rfl rfl ?_
      refine g_if_ne C (tgt := 72) dX2_carryOut_59 (by decide) (fun c2 => ?_) (fun c2 => ?_)
      · skip
        refine g_iload C dX2_carryOut_72 0 rfl ?_
        refine g_ldc C (v := vNONE) mX2_carryOut_k37 dX2_carryOut_74 ?_
        refine g_icmp_eq C (tgt := 117) dX2_carryOut_76 (by decide) (fun c3 => ?_) (fun c3 => ?_)
        · skip
          exact ret (P, Z) _ _ dX2_carryOut_117 (by unfold AS.rem; rw [hf]; exact ⟨hr, rfl⟩)
        · skip
          exact absurd rfl (c3)
      · skip
        exact absurd c2 (by decide)
    · skip
      exact absurd c1 (by decide)
  · skip
    have hlive := (fnd_live hf).1
    have hc5 : c < 512 := fnd_lt hr.1.1 hr.2.1 hf
    show G x l (rmF 4 144) D 5 0 0 (wG cy g (z 0) P ++ (wZ cy z Z)) [(0, .ref (g 0)), (1, .int 1), (2, .int key), (3, .int v)] [.int (nI c)] 5
    refine g_istore C (lv' := [(4, .int (nI c)), (0, .ref (g 0)), (1, .int 1), (2, .int key), (3, .int v)]) dX2_carryOut_5 (by decide) rfl ?_
    refine g_iload_n C dX2_carryOut_7 2 rfl rfl ?_
    refine g_if_ne C (tgt := 58) dX2_carryOut_8 (by decide) (fun c1 => ?_) (fun c1 => ?_)
    · skip
      refine g_iload_n C dX2_carryOut_58 2 rfl rfl ?_
      refine g_if_ne C (tgt := 72) dX2_carryOut_59 (by decide) (fun c2 => ?_) (fun c2 => ?_)
      · skip
        refine g_iload C dX2_carryOut_72 0 rfl ?_
        refine g_ldc C (v := vNONE) mX2_carryOut_k37 dX2_carryOut_74 ?_
        refine g_icmp_eq C (tgt := 117) dX2_carryOut_76 (by decide) (fun c3 => ?_) (fun c3 => ?_)
        · skip
          exact absurd c3 (NONE_nI (by omega))
        · skip
          refine g_aload_n C dX2_carryOut_79 1 rfl rfl ?_
          refine g_aload_n C dX2_carryOut_80 1 rfl rfl ?_
          refine g_iload_n C dX2_carryOut_81 3 rfl rfl ?_
          refine g_callIV C [0, 1, 2, 3, 4, 5, 6, 7] [8, 9, 10] [3, 4, 5, 6, 7, 8, 9, 10, 0, 1, 2] 0 2 (b := g 0) rfl rfl (As := [.int key]) (rest := [.ref (g 0)]) (wr := (wZ cy z Z)) (wf := fun _ => (wG cy g (z 0) P ++ (wZ cy z Z))) dX2_carryOut_82 gX2_carryOut_X2_addressOf rfl dmX2_addressOf ⟨rfl, rfl, Nat.le_of_ble_eq_true rfl, Nat.le_of_ble_eq_true rfl, Nat.zero_le _, Nat.zero_le _⟩ (c_X2_addressOf l D cy cz g (z 0) P A.L A.S key hr.2.2.1 hr.2.2.2 hr.2.1.1 hr.S64) ⟨rfl, rfl, rfl, rfl, by decide, rfl, fun _ => rfl⟩ (Nat.le_of_ble_eq_true rfl) ?_
          rintro _ - rfl
          show G x l (rmF 4 144) D 5 0 0 (wG cy g (z 0) P ++ (wZ cy z Z)) [(4, .int (nI c)), (0, .ref (g 0)), (1, .int 1), (2, .int key), (3, .int v)] [.int (nI (adr A.L A.S key)), .ref (g 0)] 85
          refine g_top (b := nI (A.ad key)) (rfl) ?_
          refine g_iload C dX2_carryOut_85 0 rfl ?_
          refine g_callVV C [0, 1, 2, 3, 4, 5, 6, 7] [8, 9, 10] [3, 4, 5, 6, 7, 8, 9, 10, 0, 1, 2] 0 2 (b := g 0) rfl rfl (As := [.int (nI (A.ad key)), .int (nI c)]) (rest := []) (wr := (wZ cy z Z)) (wf := fun P1 => (wG cy g (z 0) P1 ++ (wZ cy z Z))) dX2_carryOut_87 gX2_carryOut_X2_takeOut rfl dmX2_takeOut ⟨rfl, rfl, Nat.le_of_ble_eq_true rfl, Nat.le_of_ble_eq_true rfl, Nat.zero_le _, Nat.zero_le _⟩ (c_X2_takeOut l D cy cz g (z 0) P A (A.ad key) c hr.1 (hr.adlt key) hc5 hlive) ⟨rfl, rfl, rfl, rfl, by decide, rfl, fun _ => rfl⟩ (Nat.le_of_ble_eq_true rfl) ?_
          intro P1 hp1
          show G x l (rmF 4 144) D 5 0 0 (wG cy g (z 0) P1 ++ (wZ cy z Z)) [(4, .int (nI c)), (0, .ref (g 0)), (1, .int 1), (2, .int key), (3, .int v)] [] 90
          have hA1 := RP_del hr (adr_lt A.L A.S key) hlive hp1.1 hp1.2.1 hp1.2.2.1
          have hnb : (A.del (A.ad key) c).nb = A.nb := by unfold AS.nb; rw [(del_LS _ _ _).1, (del_LS _ _ _).2]
          have n64 := hr.nb64
          refine g_aload_n C dX2_carryOut_90 1 rfl rfl ?_
          refine g_callIV C [0, 1, 2, 3, 4, 5, 6, 7] [8, 9, 10] [3, 4, 5, 6, 7, 8, 9, 10, 0, 1, 2] 0 2 (b := g 0) rfl rfl (As := []) (rest := []) (wr := (wZ cy z Z)) (wf := fun _ => (wG cy g (z 0) P1 ++ (wZ cy z Z))) dX2_carryOut_91 gX2_carryOut_X2_bucketCount rfl dmX2_bucketCount ⟨rfl, rfl, Nat.le_of_ble_eq_true rfl, Nat.le_of_ble_eq_true rfl, Nat.zero_le _, Nat.zero_le _⟩ (c_X2_bucketCount l D cy cz g (z 0) P1) ⟨rfl, rfl, rfl, rfl, by decide, rfl, fun _ => rfl⟩ (Nat.le_of_ble_eq_true rfl) ?_
          rintro _ - rfl
          show G x l (rmF 4 144) D 5 0 0 (wG cy g (z 0) P1 ++ (wZ cy z Z)) [(4, .int (nI c)), (0, .ref (g 0)), (1, .int 1), (2, .int key), (3, .int v)] [.int ((4 <<< (P1 0 0 &&& 31)) + P1 0 1)] 94
          refine g_top (b := nI A.nb) (hA1.nb.trans (congrArg nI hnb)) ?_
          refine g_iconst C (v := 4) dX2_carryOut_94 (by decide) ?_
          refine g_icmp_le C (tgt := 117) dX2_carryOut_95 (by decide) (fun c4 => ?_) (fun c4 => ?_)
          · skip
            have hn : ¬ 4 < A.nb := by have := (nI_leI (b := 4) (by omega) (by decide)).mp c4; omega
            exact ret (P1, Z) _ _ dX2_carryOut_117 (by unfold AS.rem; rw [hf]; show RP (if _ then _ else _ : AS × Int32).1 _ ∧ _ = (if _ then _ else _ : AS × Int32).2; rw [if_neg (fun w => hn w.1)]; exact ⟨hA1, hp1.2.2.2⟩)
          · skip
            have hn : 4 < A.nb := Nat.lt_of_not_le (fun w => c4 (nI_le w (by decide)))
            refine g_iconst C (v := 2) dX2_carryOut_98 (by decide) ?_
            refine g_aload_n C dX2_carryOut_99 1 rfl rfl ?_
            refine g_get C 0 (f := 10) (v := .int (P1 0 2)) (Cn := RX2) (T := TX2) (N := 11) dX2_carryOut_100 rfl rfl iX2_carryOut_X2 (by decide) mX2_carryOut_f57 rfl ?_
            refine g_top (b := P 0 2 - 1) (hp1.2.2.2) ?_
            refine g_imul C dX2_carryOut_103 ?_
            refine g_iconst C (v := 3) dX2_carryOut_104 (by decide) ?_
            refine g_aload_n C dX2_carryOut_105 1 rfl rfl ?_
            refine g_callIV C [0, 1, 2, 3, 4, 5, 6, 7] [8, 9, 10] [3, 4, 5, 6, 7, 8, 9, 10, 0, 1, 2] 0 2 (b := g 0) rfl rfl (As := []) (rest := [.int 3, .int (2 * (P 0 2 - 1))]) (wr := (wZ cy z Z)) (wf := fun _ => (wG cy g (z 0) P1 ++ (wZ cy z Z))) dX2_carryOut_106 gX2_carryOut_X2_bucketCount rfl dmX2_bucketCount ⟨rfl, rfl, Nat.le_of_ble_eq_true rfl, Nat.le_of_ble_eq_true rfl, Nat.zero_le _, Nat.zero_le _⟩ (c_X2_bucketCount l D cy cz g (z 0) P1) ⟨rfl, rfl, rfl, rfl, by decide, rfl, fun _ => rfl⟩ (Nat.le_of_ble_eq_true rfl) ?_
            rintro _ - rfl
            show G x l (rmF 4 144) D 5 0 0 (wG cy g (z 0) P1 ++ (wZ cy z Z)) [(4, .int (nI c)), (0, .ref (g 0)), (1, .int 1), (2, .int key), (3, .int v)] [.int ((4 <<< (P1 0 0 &&& 31)) + P1 0 1), .int 3, .int (2 * (P 0 2 - 1))] 109
            refine g_top (b := nI A.nb) (hA1.nb.trans (congrArg nI hnb)) ?_
            refine g_imul C dX2_carryOut_109 ?_
            refine g_icmp_ge C (tgt := 117) dX2_carryOut_110 (by decide) (fun c5 => ?_) (fun c5 => ?_)
            · skip
              exact ret (P1, Z) _ _ dX2_carryOut_117 (by unfold AS.rem; rw [hf]; show RP (if _ then _ else _ : AS × Int32).1 _ ∧ _ = (if _ then _ else _ : AS × Int32).2; rw [if_neg (fun w => absurd w.2 (Int32.not_lt.mpr c5))]; exact ⟨hA1, hp1.2.2.2⟩)
            · skip
              refine g_aload_n C dX2_carryOut_113 1 rfl rfl ?_
              refine g_callVV C [0, 1, 2, 3, 4, 5, 6, 7, 8, 9, 10] [] [0, 1, 2, 3, 4, 5, 6, 7, 8, 9, 10] 0 2 (b := g 0) rfl rfl (As := []) (rest := []) (wr := ([] : va_W)) (wf := fun u2 => (wG cy g (z 0) u2.1 ++ (wZ cy z u2.2))) dX2_carryOut_114 gX2_carryOut_X2_shrink rfl dmX2_shrink ⟨rfl, rfl, Nat.le_of_ble_eq_true rfl, Nat.le_of_ble_eq_true rfl, Nat.zero_le _, Nat.zero_le _⟩ (c_X2_shrink l D cy cz g z P1 Z (A.del (A.ad key) c) hA1 (by rw [hnb]; exact hn)) ⟨rfl, rfl, rfl, rfl, by decide, rfl, fun _ => rfl⟩ (Nat.le_of_ble_eq_true rfl) ?_
              intro u2 hp2
              show G x l (rmF 4 144) D 5 0 0 (wG cy g (z 0) u2.1 ++ (wZ cy z u2.2)) [(4, .int (nI c)), (0, .ref (g 0)), (1, .int 1), (2, .int key), (3, .int v)] [] 117
              exact ret u2 _ _ dX2_carryOut_117 (by unfold AS.rem; rw [hf]; show RP (if _ then _ else _ : AS × Int32).1 _ ∧ _ = (if _ then _ else _ : AS × Int32).2; rw [if_pos ⟨hn, Int32.not_le.mp c5⟩]; exact ⟨hp2.1, hp2.2.trans hp1.2.2.2⟩)
      · skip
        exact absurd c2 (by decide)
    · skip
      exact absurd c1 (by decide)

theorem mX2_copyFrom_f9 : Cond.fieldLink RX2 9 (TX2 0).1 (TX2 0).2.1 (TX2 0).2.2.1 ∈ wsX2_copyFrom := List.mem_of_getElem? (i := 1) rfl
theorem iX2_copyFrom_X2 : ∀ w ∈ wsX20, w ∈ wsX2_copyFrom := by decide +kernel
theorem mX2_copyFrom_l44 : Cond.methodLink RX2 44 arraycopyName ∈ wsX2_copyFrom := List.mem_of_getElem? (i := 2) rfl
theorem mX2_copyFrom_n44 : Cond.native arraycopyName ∈ wsX2_copyFrom := List.mem_of_getElem? (i := 3) rfl
theorem mX2_copyFrom_s44 : Cond.static arraycopyName ∈ wsX2_copyFrom := List.mem_of_getElem? (i := 4) rfl
theorem mX2_copyFrom_i44 : Cond.initialized "java/lang/System" ∈ wsX2_copyFrom := List.mem_of_getElem? (i := 5) rfl
theorem mX2_copyFrom_f15 : Cond.fieldLink RX2 15 (TX2 1).1 (TX2 1).2.1 (TX2 1).2.2.1 ∈ wsX2_copyFrom := List.mem_of_getElem? (i := 6) rfl
theorem mX2_copyFrom_f18 : Cond.fieldLink RX2 18 (TX2 2).1 (TX2 2).2.1 (TX2 2).2.2.1 ∈ wsX2_copyFrom := List.mem_of_getElem? (i := 7) rfl
theorem mX2_copyFrom_f21 : Cond.fieldLink RX2 21 (TX2 3).1 (TX2 3).2.1 (TX2 3).2.2.1 ∈ wsX2_copyFrom := List.mem_of_getElem? (i := 8) rfl
theorem mX2_copyFrom_f24 : Cond.fieldLink RX2 24 (TX2 4).1 (TX2 4).2.1 (TX2 4).2.2.1 ∈ wsX2_copyFrom := List.mem_of_getElem? (i := 9) rfl
theorem mX2_copyFrom_f27 : Cond.fieldLink RX2 27 (TX2 5).1 (TX2 5).2.1 (TX2 5).2.2.1 ∈ wsX2_copyFrom := List.mem_of_getElem? (i := 10) rfl
theorem mX2_copyFrom_f30 : Cond.fieldLink RX2 30 (TX2 6).1 (TX2 6).2.1 (TX2 6).2.2.1 ∈ wsX2_copyFrom := List.mem_of_getElem? (i := 11) rfl
theorem mX2_copyFrom_f50 : Cond.fieldLink RX2 50 (TX2 8).1 (TX2 8).2.1 (TX2 8).2.2.1 ∈ wsX2_copyFrom := List.mem_of_getElem? (i := 12) rfl
theorem mX2_copyFrom_f54 : Cond.fieldLink RX2 54 (TX2 9).1 (TX2 9).2.1 (TX2 9).2.2.1 ∈ wsX2_copyFrom := List.mem_of_getElem? (i := 13) rfl
theorem mX2_copyFrom_f57 : Cond.fieldLink RX2 57 (TX2 10).1 (TX2 10).2.1 (TX2 10).2.2.1 ∈ wsX2_copyFrom := List.mem_of_getElem? (i := 14) rfl
set_option maxHeartbeats 1600000 in
set_option maxRecDepth 20000 in
theorem c_X2_copyFrom (l : Launch) (D : va_G) (cy cz : ClassId) (g : Nat → Nat) (h : Nat → Nat) (z0 : Nat) (P : Mem) (O : Mem) : MVd l yX2_copyFrom wsX2_copyFrom (rmF 1 36) D (tyL cy cz) [.ref (g 0), .ref (h 0)] (wG cy g z0 P ++ (wG cy h z0 O)) (wG cy g z0 O ++ (wG cy h z0 O)) := by
  refine g_entV (cc := cX2_copyFrom) (maxL := 2) (own := RX2) (by decide) rfl rfl (Nat.le_of_ble_eq_true rfl) (fun x C ret => ?_)
  show G x l (rmF 1 36) D 2 0 0 (wG cy g z0 P ++ (wG cy h z0 O)) [(0, .ref (g 0)), (1, .ref (h 0))] [] 0
  refine g_aload_n C dX2_copyFrom_0 1 rfl rfl ?_
  refine g_get C 8 (f := 0) (v := .ref (h 1)) (Cn := RX2) (T := TX2) (N := 11) dX2_copyFrom_1 rfl rfl iX2_copyFrom_X2 (by decide) mX2_copyFrom_f9 rfl ?_
  refine g_iconst C (v := 0) dX2_copyFrom_4 (by decide) ?_
  refine g_aload_n C dX2_copyFrom_5 0 rfl rfl ?_
  refine g_get C 0 (f := 0) (v := .ref (g 1)) (Cn := RX2) (T := TX2) (N := 11) dX2_copyFrom_6 rfl rfl iX2_copyFrom_X2 (by decide) mX2_copyFrom_f9 rfl ?_
  refine g_iconst C (v := 0) dX2_copyFrom_9 (by decide) ?_
  refine g_aload_n C dX2_copyFrom_10 0 rfl rfl ?_
  refine g_get C 0 (f := 0) (v := .ref (g 1)) (Cn := RX2) (T := TX2) (N := 11) dX2_copyFrom_11 rfl rfl iX2_copyFrom_X2 (by decide) mX2_copyFrom_f9 rfl ?_
  refine g_alen C 1 0 (f := P 1) (N := 512) dX2_copyFrom_14 rfl rfl ?_
  refine g_copy C 9 1 0 (f := O 1) (g := P 1) (N := 512) (ws' := (wG cy g z0 (pa P 1 (O 1)) ++ (wG cy h z0 O))) dX2_copyFrom_15 mX2_copyFrom_l44 mX2_copyFrom_n44 mX2_copyFrom_s44 mX2_copyFrom_i44 rfl rfl rfl (by decide) rfl (Nat.le_of_ble_eq_true rfl) (Nat.le_of_ble_eq_true rfl) (set_l (Nat.le_of_ble_eq_true rfl) (wG_c1 cy g z0 P (O 1))) ?_
  refine g_aload_n C dX2_copyFrom_18 1 rfl rfl ?_
  refine g_get C 8 (f := 1) (v := .ref (h 2)) (Cn := RX2) (T := TX2) (N := 11) dX2_copyFrom_19 rfl rfl iX2_copyFrom_X2 (by decide) mX2_copyFrom_f15 rfl ?_
  refine g_iconst C (v := 0) dX2_copyFrom_22 (by decide) ?_
  refine g_aload_n C dX2_copyFrom_23 0 rfl rfl ?_
  refine g_get C 0 (f := 1) (v := .ref (g 2)) (Cn := RX2) (T := TX2) (N := 11) dX2_copyFrom_24 rfl rfl iX2_copyFrom_X2 (by decide) mX2_copyFrom_f15 rfl ?_
  refine g_iconst C (v := 0) dX2_copyFrom_27 (by decide) ?_
  refine g_aload_n C dX2_copyFrom_28 0 rfl rfl ?_
  refine g_get C 0 (f := 1) (v := .ref (g 2)) (Cn := RX2) (T := TX2) (N := 11) dX2_copyFrom_29 rfl rfl iX2_copyFrom_X2 (by decide) mX2_copyFrom_f15 rfl ?_
  refine g_alen C 2 0 (f := P 2) (N := 512) dX2_copyFrom_32 rfl rfl ?_
  refine g_copy C 10 2 0 (f := O 2) (g := P 2) (N := 512) (ws' := (wG cy g z0 (pa (pa P 1 (O 1)) 2 (O 2)) ++ (wG cy h z0 O))) dX2_copyFrom_33 mX2_copyFrom_l44 mX2_copyFrom_n44 mX2_copyFrom_s44 mX2_copyFrom_i44 rfl rfl rfl (by decide) rfl (Nat.le_of_ble_eq_true rfl) (Nat.le_of_ble_eq_true rfl) (set_l (Nat.le_of_ble_eq_true rfl) (wG_c2 cy g z0 (pa P 1 (O 1)) (O 2))) ?_
  refine g_aload_n C dX2_copyFrom_36 1 rfl rfl ?_
  refine g_get C 8 (f := 2) (v := .ref (h 3)) (Cn := RX2) (T := TX2) (N := 11) dX2_copyFrom_37 rfl rfl iX2_copyFrom_X2 (by decide) mX2_copyFrom_f18 rfl ?_
  refine g_iconst C (v := 0) dX2_copyFrom_40 (by decide) ?_
  refine g_aload_n C dX2_copyFrom_41 0 rfl rfl ?_
  refine g_get C 0 (f := 2) (v := .ref (g 3)) (Cn := RX2) (T := TX2) (N := 11) dX2_copyFrom_42 rfl rfl iX2_copyFrom_X2 (by decide) mX2_copyFrom_f18 rfl ?_
  refine g_iconst C (v := 0) dX2_copyFrom_45 (by decide) ?_
  refine g_aload_n C dX2_copyFrom_46 0 rfl rfl ?_
  refine g_get C 0 (f := 2) (v := .ref (g 3)) (Cn := RX2) (T := TX2) (N := 11) dX2_copyFrom_47 rfl rfl iX2_copyFrom_X2 (by decide) mX2_copyFrom_f18 rfl ?_
  refine g_alen C 3 0 (f := P 3) (N := 128) dX2_copyFrom_50 rfl rfl ?_
  refine g_copy C 11 3 0 (f := O 3) (g := P 3) (N := 128) (ws' := (wG cy g z0 (pa (pa (pa P 1 (O 1)) 2 (O 2)) 3 (O 3)) ++ (wG cy h z0 O))) dX2_copyFrom_51 mX2_copyFrom_l44 mX2_copyFrom_n44 mX2_copyFrom_s44 mX2_copyFrom_i44 rfl rfl rfl (by decide) rfl (Nat.le_of_ble_eq_true rfl) (Nat.le_of_ble_eq_true rfl) (set_l (Nat.le_of_ble_eq_true rfl) (wG_c3 cy g z0 (pa (pa P 1 (O 1)) 2 (O 2)) (O 3))) ?_
  refine g_aload_n C dX2_copyFrom_54 1 rfl rfl ?_
  refine g_get C 8 (f := 3) (v := .ref (h 4)) (Cn := RX2) (T := TX2) (N := 11) dX2_copyFrom_55 rfl rfl iX2_copyFrom_X2 (by decide) mX2_copyFrom_f21 rfl ?_
  refine g_iconst C (v := 0) dX2_copyFrom_58 (by decide) ?_
  refine g_aload_n C dX2_copyFrom_59 0 rfl rfl ?_
  refine g_get C 0 (f := 3) (v := .ref (g 4)) (Cn := RX2) (T := TX2) (N := 11) dX2_copyFrom_60 rfl rfl iX2_copyFrom_X2 (by decide) mX2_copyFrom_f21 rfl ?_
  refine g_iconst C (v := 0) dX2_copyFrom_63 (by decide) ?_
  refine g_aload_n C dX2_copyFrom_64 0 rfl rfl ?_
  refine g_get C 0 (f := 3) (v := .ref (g 4)) (Cn := RX2) (T := TX2) (N := 11) dX2_copyFrom_65 rfl rfl iX2_copyFrom_X2 (by decide) mX2_copyFrom_f21 rfl ?_
  refine g_alen C 4 0 (f := P 4) (N := 128) dX2_copyFrom_68 rfl rfl ?_
  refine g_copy C 12 4 0 (f := O 4) (g := P 4) (N := 128) (ws' := (wG cy g z0 (pa (pa (pa (pa P 1 (O 1)) 2 (O 2)) 3 (O 3)) 4 (O 4)) ++ (wG cy h z0 O))) dX2_copyFrom_69 mX2_copyFrom_l44 mX2_copyFrom_n44 mX2_copyFrom_s44 mX2_copyFrom_i44 rfl rfl rfl (by decide) rfl (Nat.le_of_ble_eq_true rfl) (Nat.le_of_ble_eq_true rfl) (set_l (Nat.le_of_ble_eq_true rfl) (wG_c4 cy g z0 (pa (pa (pa P 1 (O 1)) 2 (O 2)) 3 (O 3)) (O 4))) ?_
  refine g_aload_n C dX2_copyFrom_72 1 rfl rfl ?_
  refine g_get C 8 (f := 4) (v := .ref (h 5)) (Cn := RX2) (T := TX2) (N := 11) dX2_copyFrom_73 rfl rfl iX2_copyFrom_X2 (by decide) mX2_copyFrom_f24 rfl ?_
  refine g_iconst C (v := 0) dX2_copyFrom_76 (by decide) ?_
  refine g_aload_n C dX2_copyFrom_77 0 rfl rfl ?_
  refine g_get C 0 (f := 4) (v := .ref (g 5)) (Cn := RX2) (T := TX2) (N := 11) dX2_copyFrom_78 rfl rfl iX2_copyFrom_X2 (by decide) mX2_copyFrom_f24 rfl ?_
  refine g_iconst C (v := 0) dX2_copyFrom_81 (by decide) ?_
  refine g_aload_n C dX2_copyFrom_82 0 rfl rfl ?_
  refine g_get C 0 (f := 4) (v := .ref (g 5)) (Cn := RX2) (T := TX2) (N := 11) dX2_copyFrom_83 rfl rfl iX2_copyFrom_X2 (by decide) mX2_copyFrom_f24 rfl ?_
  refine g_alen C 5 0 (f := P 5) (N := 128) dX2_copyFrom_86 rfl rfl ?_
  refine g_copy C 13 5 0 (f := O 5) (g := P 5) (N := 128) (ws' := (wG cy g z0 (pa (pa (pa (pa (pa P 1 (O 1)) 2 (O 2)) 3 (O 3)) 4 (O 4)) 5 (O 5)) ++ (wG cy h z0 O))) dX2_copyFrom_87 mX2_copyFrom_l44 mX2_copyFrom_n44 mX2_copyFrom_s44 mX2_copyFrom_i44 rfl rfl rfl (by decide) rfl (Nat.le_of_ble_eq_true rfl) (Nat.le_of_ble_eq_true rfl) (set_l (Nat.le_of_ble_eq_true rfl) (wG_c5 cy g z0 (pa (pa (pa (pa P 1 (O 1)) 2 (O 2)) 3 (O 3)) 4 (O 4)) (O 5))) ?_
  refine g_aload_n C dX2_copyFrom_90 1 rfl rfl ?_
  refine g_get C 8 (f := 5) (v := .ref (h 6)) (Cn := RX2) (T := TX2) (N := 11) dX2_copyFrom_91 rfl rfl iX2_copyFrom_X2 (by decide) mX2_copyFrom_f27 rfl ?_
  refine g_iconst C (v := 0) dX2_copyFrom_94 (by decide) ?_
  refine g_aload_n C dX2_copyFrom_95 0 rfl rfl ?_
  refine g_get C 0 (f := 5) (v := .ref (g 6)) (Cn := RX2) (T := TX2) (N := 11) dX2_copyFrom_96 rfl rfl iX2_copyFrom_X2 (by decide) mX2_copyFrom_f27 rfl ?_
  refine g_iconst C (v := 0) dX2_copyFrom_99 (by decide) ?_
  refine g_aload_n C dX2_copyFrom_100 0 rfl rfl ?_
  refine g_get C 0 (f := 5) (v := .ref (g 6)) (Cn := RX2) (T := TX2) (N := 11) dX2_copyFrom_101 rfl rfl iX2_copyFrom_X2 (by decide) mX2_copyFrom_f27 rfl ?_
  refine g_alen C 6 0 (f := P 6) (N := 128) dX2_copyFrom_104 rfl rfl ?_
  refine g_copy C 14 6 0 (f := O 6) (g := P 6) (N := 128) (ws' := (wG cy g z0 (pa (pa (pa (pa (pa (pa P 1 (O 1)) 2 (O 2)) 3 (O 3)) 4 (O 4)) 5 (O 5)) 6 (O 6)) ++ (wG cy h z0 O))) dX2_copyFrom_105 mX2_copyFrom_l44 mX2_copyFrom_n44 mX2_copyFrom_s44 mX2_copyFrom_i44 rfl rfl rfl (by decide) rfl (Nat.le_of_ble_eq_true rfl) (Nat.le_of_ble_eq_true rfl) (set_l (Nat.le_of_ble_eq_true rfl) (wG_c6 cy g z0 (pa (pa (pa (pa (pa P 1 (O 1)) 2 (O 2)) 3 (O 3)) 4 (O 4)) 5 (O 5)) (O 6))) ?_
  refine g_aload_n C dX2_copyFrom_108 1 rfl rfl ?_
  refine g_get C 8 (f := 6) (v := .ref (h 7)) (Cn := RX2) (T := TX2) (N := 11) dX2_copyFrom_109 rfl rfl iX2_copyFrom_X2 (by decide) mX2_copyFrom_f30 rfl ?_
  refine g_iconst C (v := 0) dX2_copyFrom_112 (by decide) ?_
  refine g_aload_n C dX2_copyFrom_113 0 rfl rfl ?_
  refine g_get C 0 (f := 6) (v := .ref (g 7)) (Cn := RX2) (T := TX2) (N := 11) dX2_copyFrom_114 rfl rfl iX2_copyFrom_X2 (by decide) mX2_copyFrom_f30 rfl ?_
  refine g_iconst C (v := 0) dX2_copyFrom_117 (by decide) ?_
  refine g_aload_n C dX2_copyFrom_118 0 rfl rfl ?_
  refine g_get C 0 (f := 6) (v := .ref (g 7)) (Cn := RX2) (T := TX2) (N := 11) dX2_copyFrom_119 rfl rfl iX2_copyFrom_X2 (by decide) mX2_copyFrom_f30 rfl ?_
  refine g_alen C 7 0 (f := P 7) (N := 64) dX2_copyFrom_122 rfl rfl ?_
  refine g_copy C 15 7 0 (f := O 7) (g := P 7) (N := 64) (ws' := (wG cy g z0 (pa (pa (pa (pa (pa (pa (pa P 1 (O 1)) 2 (O 2)) 3 (O 3)) 4 (O 4)) 5 (O 5)) 6 (O 6)) 7 (O 7)) ++ (wG cy h z0 O))) dX2_copyFrom_123 mX2_copyFrom_l44 mX2_copyFrom_n44 mX2_copyFrom_s44 mX2_copyFrom_i44 rfl rfl rfl (by decide) rfl (Nat.le_of_ble_eq_true rfl) (Nat.le_of_ble_eq_true rfl) (set_l (Nat.le_of_ble_eq_true rfl) (wG_c7 cy g z0 (pa (pa (pa (pa (pa (pa P 1 (O 1)) 2 (O 2)) 3 (O 3)) 4 (O 4)) 5 (O 5)) 6 (O 6)) (O 7))) ?_
  refine g_aload_n C dX2_copyFrom_126 0 rfl rfl ?_
  refine g_aload_n C dX2_copyFrom_127 1 rfl rfl ?_
  refine g_get C 8 (f := 8) (v := .int (O 0 0)) (Cn := RX2) (T := TX2) (N := 11) dX2_copyFrom_128 rfl rfl iX2_copyFrom_X2 (by decide) mX2_copyFrom_f50 rfl ?_
  refine g_put C 0 (f := 8) (v := .int (O 0 0)) (ty := .int) (Cn := RX2) (T := TX2) (N := 11) (ws' := (wG cy g z0 (ps (pa (pa (pa (pa (pa (pa (pa P 1 (O 1)) 2 (O 2)) 3 (O 3)) 4 (O 4)) 5 (O 5)) 6 (O 6)) 7 (O 7)) 0 0 (O 0 0)) ++ (wG cy h z0 O))) dX2_copyFrom_131 rfl rfl iX2_copyFrom_X2 tyX2 tyX2_ok nmX2 (by decide) mX2_copyFrom_f50 rfl rfl (rfl) (rfl) (Nat.le_of_ble_eq_true rfl) (set_l (Nat.le_of_ble_eq_true rfl) (wG_s0 cy g z0 (pa (pa (pa (pa (pa (pa (pa P 1 (O 1)) 2 (O 2)) 3 (O 3)) 4 (O 4)) 5 (O 5)) 6 (O 6)) 7 (O 7)) (O 0 0))) ?_
  refine g_aload_n C dX2_copyFrom_134 0 rfl rfl ?_
  refine g_aload_n C dX2_copyFrom_135 1 rfl rfl ?_
  refine g_get C 8 (f := 9) (v := .int (O 0 1)) (Cn := RX2) (T := TX2) (N := 11) dX2_copyFrom_136 rfl rfl iX2_copyFrom_X2 (by decide) mX2_copyFrom_f54 rfl ?_
  refine g_put C 0 (f := 9) (v := .int (O 0 1)) (ty := .int) (Cn := RX2) (T := TX2) (N := 11) (ws' := (wG cy g z0 (ps (ps (pa (pa (pa (pa (pa (pa (pa P 1 (O 1)) 2 (O 2)) 3 (O 3)) 4 (O 4)) 5 (O 5)) 6 (O 6)) 7 (O 7)) 0 0 (O 0 0)) 0 1 (O 0 1)) ++ (wG cy h z0 O))) dX2_copyFrom_139 rfl rfl iX2_copyFrom_X2 tyX2 tyX2_ok nmX2 (by decide) mX2_copyFrom_f54 rfl rfl (rfl) (rfl) (Nat.le_of_ble_eq_true rfl) (set_l (Nat.le_of_ble_eq_true rfl) (wG_s1 cy g z0 (ps (pa (pa (pa (pa (pa (pa (pa P 1 (O 1)) 2 (O 2)) 3 (O 3)) 4 (O 4)) 5 (O 5)) 6 (O 6)) 7 (O 7)) 0 0 (O 0 0)) (O 0 1))) ?_
  refine g_aload_n C dX2_copyFrom_142 0 rfl rfl ?_
  refine g_aload_n C dX2_copyFrom_143 1 rfl rfl ?_
  refine g_get C 8 (f := 10) (v := .int (O 0 2)) (Cn := RX2) (T := TX2) (N := 11) dX2_copyFrom_144 rfl rfl iX2_copyFrom_X2 (by decide) mX2_copyFrom_f57 rfl ?_
  refine g_put C 0 (f := 10) (v := .int (O 0 2)) (ty := .int) (Cn := RX2) (T := TX2) (N := 11) (ws' := (wG cy g z0 (ps (ps (ps (pa (pa (pa (pa (pa (pa (pa P 1 (O 1)) 2 (O 2)) 3 (O 3)) 4 (O 4)) 5 (O 5)) 6 (O 6)) 7 (O 7)) 0 0 (O 0 0)) 0 1 (O 0 1)) 0 2 (O 0 2)) ++ (wG cy h z0 O))) dX2_copyFrom_147 rfl rfl iX2_copyFrom_X2 tyX2 tyX2_ok nmX2 (by decide) mX2_copyFrom_f57 rfl rfl (rfl) (rfl) (Nat.le_of_ble_eq_true rfl) (set_l (Nat.le_of_ble_eq_true rfl) (wG_s2 cy g z0 (ps (ps (pa (pa (pa (pa (pa (pa (pa P 1 (O 1)) 2 (O 2)) 3 (O 3)) 4 (O 4)) 5 (O 5)) 6 (O 6)) 7 (O 7)) 0 0 (O 0 0)) 0 1 (O 0 1)) (O 0 2))) ?_
  exact ret () _ _ dX2_copyFrom_150 trivial
