/-! made by wip/whole/gen.py and m1.py -/
theorem mX4_layHeld_f67 : Cond.fieldLink RX4 67 (TX4 19).1 (TX4 19).2.1 (TX4 19).2.2.1 ∈ wsX4_layHeld := List.mem_of_getElem? (i := 1) rfl
theorem iX4_layHeld_X4 : ∀ w ∈ wsX40, w ∈ wsX4_layHeld := by decide +kernel
theorem mX4_layHeld_f35 : Cond.fieldLink RX4 35 (TX4 17).1 (TX4 17).2.1 (TX4 17).2.2.1 ∈ wsX4_layHeld := List.mem_of_getElem? (i := 2) rfl
theorem mX4_layHeld_f38 : Cond.fieldLink RX4 38 (TX4 18).1 (TX4 18).2.1 (TX4 18).2.2.1 ∈ wsX4_layHeld := List.mem_of_getElem? (i := 3) rfl
set_option maxHeartbeats 1600000 in
set_option maxRecDepth 20000 in
theorem c_X4_layHeld (l : Launch) (D : va_G) (cy cz : ClassId) (m : Nat → Nat) (M : Mem) (A : AS) (h : EL) (F : Nat) (s : Nat) (t : Nat) (hr : RM A M) (hz : RH M h) (hli : LI A F s t 0) (hF : (h.length + 3) / 4 - 1 ≤ F) (hk : ∀ kv, kv ∈ h → A.ad kv.1 = s ∨ A.ad kv.1 = t) : MV l yX4_layHeld wsX4_layHeld (rmF 2 72) D (tyL cy cz) [.ref (m 0)] (wM cy cz m M) (fun (M1 : Mem) => RM (A.lay h) M1 ∧ KA M M1) (fun M1 => (wM cy cz m M1)) := by
  refine g_entV (cc := cX4_layHeld) (maxL := 2) (own := RX4) (by decide) rfl rfl (Nat.le_of_ble_eq_true rfl) (fun x C ret => ?_)
  show G x l (rmF 2 72) D 2 0 0 (wM cy cz m M) [(0, .ref (m 0))] [] 0
  have hl5 := hz.2.1
  refine g_iconst C (v := 0) dX4_layHeld_0 (by decide) ?_
  refine g_istore_n C (lv' := [(1, .int 0), (0, .ref (m 0))]) dX4_layHeld_1 rfl (by decide) rfl ?_
  refine g_loop (σ := Nat × Mem) (fun (a : Nat × Mem) => match a with | (i, Mi) => (wM cy cz m Mi)) (fun (a : Nat × Mem) => match a with | (i, Mi) => [(1, .int (nI i)), (0, .ref (m 0))]) (fun (a : Nat × Mem) => match a with | (i, Mi) => (i ≤ h.length) ∧ (RM (A.lay (h.take i)) Mi) ∧ (KA M Mi) ∧ (LI (A.lay (h.take i)) F s t i)) (fun (a : Nat × Mem) => match a with | (i, Mi) => h.length - i) ?_ (0, M) (⟨Nat.zero_le _, hr, KA.rf M, hli⟩)
  intro a hI ih
  obtain ⟨i, Mi⟩ := a
  obtain ⟨i1, i2, i3, i4⟩ : (i ≤ h.length) ∧ (RM (A.lay (h.take i)) Mi) ∧ (KA M Mi) ∧ (LI (A.lay (h.take i)) F s t i) := hI
  show G x l (rmF 2 72) D 2 0 0 (wM cy cz m Mi) [(1, .int (nI i)), (0, .ref (m 0))] [] 2
  refine g_iload_n C dX4_layHeld_2 0 rfl rfl ?_
  refine g_aload_n C dX4_layHeld_3 1 rfl rfl ?_
  refine g_get C 0 (f := 19) (v := .int (Mi 0 9)) (Cn := RX4) (T := TX4) (N := 20) dX4_layHeld_4 rfl rfl iX4_layHeld_X4 (by decide) mX4_layHeld_f67 rfl ?_
  refine g_top (b := nI h.length) ((congrFun i3.1 9).trans hz.1) ?_
  refine g_icmp_ge C (tgt := 42) dX4_layHeld_7 (by decide) (fun c2 => ?_) (fun c2 => ?_)
  · skip
    have hi : i = h.length := by have := (nI_leI (by omega) (by omega)).mp c2; omega
    exact ret Mi _ _ dX4_layHeld_42 (⟨by rw [hi, List.take_length] at i2; exact i2, i3⟩)
  · skip
    have hi : i < h.length := Nat.lt_of_not_le (fun w => c2 (nI_le w (by omega)))
    have hzi := hz.2.2 i hi
    have hbt : (A.lay (h.take i)).ad (h.getD i (0, 0)).1 = s ∨ (A.lay (h.take i)).ad (h.getD i (0, 0)).1 = t := by rw [lay_ad]; exact hk _ (getD_mem hi)
    have hm := LI_room i4 hi hF hbt
    refine g_aload_n C dX4_layHeld_10 1 rfl rfl ?_
    refine g_aload_n C dX4_layHeld_11 1 rfl rfl ?_
    refine g_aload_n C dX4_layHeld_12 1 rfl rfl ?_
    refine g_get C 0 (f := 17) (v := .ref (m 9)) (Cn := RX4) (T := TX4) (N := 20) dX4_layHeld_13 rfl rfl iX4_layHeld_X4 (by decide) mX4_layHeld_f35 rfl ?_
    refine g_iload_n C dX4_layHeld_16 0 rfl rfl ?_
    refine g_iald C 9 0 (f := Mi 9) (N := 512) i dX4_layHeld_17 rfl rfl (by decide) (rfl) (by omega) ?_
    refine g_top (b := (h.getD i (0, 0)).1) ((congrFun i3.2.2.2.2.1 i).trans hzi.1) ?_
    refine g_callIV C [0, 1, 2, 3, 4, 5, 6, 7, 8, 9, 10] [] [0, 1, 2, 3, 4, 5, 6, 7, 8, 9, 10] 0 4 (b := m 0) rfl rfl (As := [.int ((h.getD i (0, 0)).1)]) (rest := [.ref (m 0)]) (wr := ([] : va_W)) (wf := fun _ => (wM cy cz m Mi)) dX4_layHeld_18 gX4_layHeld_X4_addressOf rfl dmX4_addressOf ⟨rfl, rfl, Nat.le_of_ble_eq_true rfl, Nat.le_of_ble_eq_true rfl, Nat.zero_le _, Nat.zero_le _⟩ (c_X4_addressOf l D cy cz m Mi ((A.lay (h.take i)).L) ((A.lay (h.take i)).S) ((h.getD i (0, 0)).1) i2.2.2.1 i2.2.2.2 i2.2.1.1 i2.S64) ⟨rfl, rfl, rfl, rfl, by decide, rfl, fun _ => rfl⟩ (Nat.le_of_ble_eq_true rfl) ?_
    rintro _ - rfl
    show G x l (rmF 2 72) D 2 0 0 (wM cy cz m Mi) [(1, .int (nI i)), (0, .ref (m 0))] [.int (nI (adr ((A.lay (h.take i)).L) ((A.lay (h.take i)).S) ((h.getD i (0, 0)).1))), .ref (m 0)] 21
    refine g_top (b := nI ((A.lay (h.take i)).ad (h.getD i (0, 0)).1)) (rfl) ?_
    refine g_aload_n C dX4_layHeld_21 1 rfl rfl ?_
    refine g_get C 0 (f := 17) (v := .ref (m 9)) (Cn := RX4) (T := TX4) (N := 20) dX4_layHeld_22 rfl rfl iX4_layHeld_X4 (by decide) mX4_layHeld_f35 rfl ?_
    refine g_iload_n C dX4_layHeld_25 0 rfl rfl ?_
    refine g_iald C 9 0 (f := Mi 9) (N := 512) i dX4_layHeld_26 rfl rfl (by decide) (rfl) (by omega) ?_
    refine g_top (b := (h.getD i (0, 0)).1) ((congrFun i3.2.2.2.2.1 i).trans hzi.1) ?_
    refine g_aload_n C dX4_layHeld_27 1 rfl rfl ?_
    refine g_get C 0 (f := 18) (v := .ref (m 10)) (Cn := RX4) (T := TX4) (N := 20) dX4_layHeld_28 rfl rfl iX4_layHeld_X4 (by decide) mX4_layHeld_f38 rfl ?_
    refine g_iload_n C dX4_layHeld_31 0 rfl rfl ?_
    refine g_iald C 10 0 (f := Mi 10) (N := 512) i dX4_layHeld_32 rfl rfl (by decide) (rfl) (by omega) ?_
    refine g_top (b := (h.getD i (0, 0)).2) ((congrFun i3.2.2.2.2.2 i).trans hzi.2) ?_
    refine g_callVV C [0, 1, 2, 3, 4, 5, 6, 7, 8, 9, 10] [] [0, 1, 2, 3, 4, 5, 6, 7, 8, 9, 10] 0 4 (b := m 0) rfl rfl (As := [.int (nI ((A.lay (h.take i)).ad (h.getD i (0, 0)).1)), .int ((h.getD i (0, 0)).1), .int ((h.getD i (0, 0)).2)]) (rest := []) (wr := ([] : va_W)) (wf := fun M3 => (wM cy cz m M3)) dX4_layHeld_33 gX4_layHeld_X4_add rfl dmX4_add ⟨rfl, rfl, Nat.le_of_ble_eq_true rfl, Nat.le_of_ble_eq_true rfl, Nat.zero_le _, Nat.zero_le _⟩ (c_X4_add l D cy cz m Mi (A.lay (h.take i)) ((A.lay (h.take i)).ad (h.getD i (0, 0)).1) ((h.getD i (0, 0)).1) ((h.getD i (0, 0)).2) i2.1 (i2.adlt _) hm) ⟨rfl, rfl, rfl, rfl, by decide, rfl, fun _ => rfl⟩ (Nat.le_of_ble_eq_true rfl) ?_
    intro M3 hp3
    show G x l (rmF 2 72) D 2 0 0 (wM cy cz m M3) [(1, .int (nI i)), (0, .ref (m 0))] [] 36
    refine g_iinc C (q := 0) (v := nI (i + 1)) (lv' := [(1, .int (nI (i + 1))), (0, .ref (m 0))]) dX4_layHeld_36 rfl (nI_1 i) (by decide) rfl ?_
    refine g_goto C (tgt := 2) dX4_layHeld_39 (by decide) ?_
    exact ih (i + 1, M3) ⟨hi, by rw [take_succ' hi, lay_snoc]; exact RM_add i2 hm hp3.1 hp3.2.1, i3.tr hp3.2, by rw [take_succ' hi, lay_snoc]; exact LI_step i4 hbt hm _ _⟩ (by show h.length - (i + 1) < h.length - i; omega)

theorem mX4_grow_f67 : Cond.fieldLink RX4 67 (TX4 19).1 (TX4 19).2.1 (TX4 19).2.2.1 ∈ wsX4_grow := List.mem_of_getElem? (i := 1) rfl
theorem iX4_grow_X4 : ∀ w ∈ wsX40, w ∈ wsX4_grow := by decide +kernel
theorem mX4_grow_f49 : Cond.fieldLink RX4 49 (TX4 6).1 (TX4 6).2.1 (TX4 6).2.2.1 ∈ wsX4_grow := List.mem_of_getElem? (i := 2) rfl
theorem mX4_grow_f45 : Cond.fieldLink RX4 45 (TX4 5).1 (TX4 5).2.1 (TX4 5).2.2.1 ∈ wsX4_grow := List.mem_of_getElem? (i := 3) rfl
set_option maxHeartbeats 1600000 in
set_option maxRecDepth 20000 in
theorem c_X4_grow (l : Launch) (D : va_G) (cy cz : ClassId) (m : Nat → Nat) (M : Mem) (A : AS) (hr : RM A M) (hn : A.nb < 64) : MV l yX4_grow wsX4_grow (rmF 3 108) D (tyL cy cz) [.ref (m 0)] (wM cy cz m M) (fun (M1 : Mem) => RM A.grow M1 ∧ M1 0 2 = M 0 2 ∧ KW M M1) (fun M1 => (wM cy cz m M1)) := by
  refine g_entV (cc := cX4_grow) (maxL := 1) (own := RX4) (by decide) rfl rfl (Nat.le_of_ble_eq_true rfl) (fun x C ret => ?_)
  show G x l (rmF 3 108) D 1 0 0 (wM cy cz m M) [(0, .ref (m 0))] [] 0
  have hS64 : A.S < 64 := by have := hr.2.1.S_lt; omega
  have hlen := held_len hr.1.1 hS64
  have hcl := cnt_le hr.1.1 hS64
  have h4 := hr.2.1.1
  refine g_aload_n C dX4_grow_0 0 rfl rfl ?_
  refine g_iconst C (v := 0) dX4_grow_1 (by decide) ?_
  refine g_put C 0 (f := 19) (v := .int 0) (ty := .int) (Cn := RX4) (T := TX4) (N := 20) (ws' := (wM cy cz m (ps M 0 9 0))) dX4_grow_2 rfl rfl iX4_grow_X4 tyX4 tyX4_ok nmX4 (by decide) mX4_grow_f67 rfl rfl (rfl) (rfl) (Nat.le_of_ble_eq_true rfl) (wM_s9 cy cz m M 0) ?_
  refine g_aload_n C dX4_grow_5 0 rfl rfl ?_
  refine g_aload_n C dX4_grow_6 0 rfl rfl ?_
  refine g_get C 0 (f := 6) (v := .int (M 0 1)) (Cn := RX4) (T := TX4) (N := 20) dX4_grow_7 rfl rfl iX4_grow_X4 (by decide) mX4_grow_f49 rfl ?_
  refine g_top (b := nI A.S) (hr.2.2.2) ?_
  refine g_callVV C [0, 1, 2, 3, 4, 5, 6, 7, 8, 9, 10] [] [0, 1, 2, 3, 4, 5, 6, 7, 8, 9, 10] 0 4 (b := m 0) rfl rfl (As := [.int (nI A.S)]) (rest := []) (wr := ([] : va_W)) (wf := fun u1 => (wM cy cz m u1)) dX4_grow_10 gX4_grow_X4_hold rfl dmX4_hold ⟨rfl, rfl, Nat.le_of_ble_eq_true rfl, Nat.le_of_ble_eq_true rfl, Nat.zero_le _, Nat.zero_le _⟩ (c_X4_hold l D cy cz m (ps M 0 9 0) A ([]) A.S hr.1 RH_nil hS64 (by rw [hr.1.1.sum hS64]; show 0 + _ ≤ 512; omega)) ⟨rfl, rfl, rfl, rfl, by decide, rfl, fun _ => rfl⟩ (Nat.le_of_ble_eq_true rfl) ?_
  intro u1 hp1
  show G x l (rmF 3 108) D 1 0 0 (wM cy cz m u1) [(0, .ref (m 0))] [] 13
  obtain ⟨q1, q2, q3⟩ := hp1
  have q2 : RH u1 (A.held A.S) := q2
  have eL : u1 0 0 = nI A.L := (q3.2.2.2 0 (by decide)).trans hr.2.2.1
  have eS : u1 0 1 = nI A.S := (q3.2.2.2 1 (by decide)).trans hr.2.2.2
  refine g_aload_n C dX4_grow_13 0 rfl rfl ?_
  refine g_dup C dX4_grow_14 rfl ?_
  refine g_get C 0 (f := 6) (v := .int (u1 0 1)) (Cn := RX4) (T := TX4) (N := 20) dX4_grow_15 rfl rfl iX4_grow_X4 (by decide) mX4_grow_f49 rfl ?_
  refine g_top (b := nI A.S) (eS) ?_
  refine g_iconst C (v := 1) dX4_grow_18 (by decide) ?_
  refine g_iadd C dX4_grow_19 ?_
  refine g_top (b := nI (A.S + 1)) (nI_1 _) ?_
  refine g_put C 0 (f := 6) (v := .int (nI (A.S + 1))) (ty := .int) (Cn := RX4) (T := TX4) (N := 20) (ws' := (wM cy cz m (ps u1 0 1 (nI (A.S + 1))))) dX4_grow_20 rfl rfl iX4_grow_X4 tyX4 tyX4_ok nmX4 (by decide) mX4_grow_f49 rfl rfl (rfl) (rfl) (Nat.le_of_ble_eq_true rfl) (wM_s1 cy cz m u1 (nI (A.S + 1))) ?_
  refine g_aload_n C dX4_grow_23 0 rfl rfl ?_
  refine g_get C 0 (f := 6) (v := .int (nI (A.S + 1))) (Cn := RX4) (T := TX4) (N := 20) dX4_grow_24 rfl rfl iX4_grow_X4 (by decide) mX4_grow_f49 rfl ?_
  refine g_aload_n C dX4_grow_27 0 rfl rfl ?_
  refine g_callIV C [0, 1, 2, 3, 4, 5, 6, 7, 8, 9, 10] [] [0, 1, 2, 3, 4, 5, 6, 7, 8, 9, 10] 0 4 (b := m 0) rfl rfl (As := []) (rest := [.int (nI (A.S + 1))]) (wr := ([] : va_W)) (wf := fun _ => (wM cy cz m (ps u1 0 1 (nI (A.S + 1))))) dX4_grow_28 gX4_grow_X4_base rfl dmX4_base ⟨rfl, rfl, Nat.le_of_ble_eq_true rfl, Nat.le_of_ble_eq_true rfl, Nat.zero_le _, Nat.zero_le _⟩ (c_X4_base l D cy cz m (ps u1 0 1 (nI (A.S + 1)))) ⟨rfl, rfl, rfl, rfl, by decide, rfl, fun _ => rfl⟩ (Nat.le_of_ble_eq_true rfl) ?_
  rintro _ - rfl
  show G x l (rmF 3 108) D 1 0 0 (wM cy cz m (ps u1 0 1 (nI (A.S + 1)))) [(0, .ref (m 0))] [.int (4 <<< ((ps u1 0 1 (nI (A.S + 1))) 0 0 &&& 31)), .int (nI (A.S + 1))] 31
  refine g_top (b := nI (4 * 2 ^ A.L)) ((show (4 : Int32) <<< (u1 0 0 &&& 31) = nI (4 * 2 ^ A.L) from by rw [eL]; exact base_eq h4)) ?_
  refine g_icmp_ne C (tgt := 49) dX4_grow_31 (by decide) (fun c1 => ?_) (fun c1 => ?_)
  · skip
    have hx : ¬ A.S + 1 = 4 * 2 ^ A.L := fun w => c1 (by rw [w])
    have hA : RM A.g0 ((ps u1 0 1 (nI (A.S + 1)))) := ⟨⟨(grow_LI hr.1.1 hr.2.1 hn).1, q1.2⟩, grow_WFa hr.1.1 hr.2.1 hn, eL.trans (congrArg nI (by show A.L = nxL A.L A.S; unfold nxL; rw [if_neg hx])), congrArg nI (by show A.S + 1 = nxS A.L A.S; unfold nxS; rw [if_neg hx])⟩
    refine g_aload_n C dX4_grow_49 0 rfl rfl ?_
    refine g_callVV C [0, 1, 2, 3, 4, 5, 6, 7, 8, 9, 10] [] [0, 1, 2, 3, 4, 5, 6, 7, 8, 9, 10] 0 4 (b := m 0) rfl rfl (As := []) (rest := []) (wr := ([] : va_W)) (wf := fun M3 => (wM cy cz m M3)) dX4_grow_50 gX4_grow_X4_layHeld rfl dmX4_layHeld ⟨rfl, rfl, Nat.le_of_ble_eq_true rfl, Nat.le_of_ble_eq_true rfl, Nat.zero_le _, Nat.zero_le _⟩ (c_X4_layHeld l D cy cz m (ps u1 0 1 (nI (A.S + 1))) A.g0 (A.held A.S) (A.fc + (A.tl A.S).length) A.S A.nb hA q2 (grow_LI hr.1.1 hr.2.1 hn) (grow_room hr.1.1 hS64) (grow_ad hr.2.1)) ⟨rfl, rfl, rfl, rfl, by decide, rfl, fun _ => rfl⟩ (Nat.le_of_ble_eq_true rfl) ?_
    intro M3 hp3
    show G x l (rmF 3 108) D 1 0 0 (wM cy cz m M3) [(0, .ref (m 0))] [] 53
    exact ret M3 _ _ dX4_grow_53 (⟨hp3.1, (congrFun hp3.2.1 2).trans (q3.2.2.2 2 (by decide)), (((KW_s (Or.inr rfl)).tr q3.w).tr (KW_s (Or.inl (by decide)))).tr hp3.2.h.w⟩)
  · skip
    have h16 : 4 * 2 ^ A.L ≤ 64 := by have := Nat.pow_le_pow_right (n := 2) (by decide) h4; omega
    have hx : A.S + 1 = 4 * 2 ^ A.L := (nI_eq (by omega) (by omega)).mp c1
    refine g_aload_n C dX4_grow_34 0 rfl rfl ?_
    refine g_iconst C (v := 0) dX4_grow_35 (by decide) ?_
    refine g_put C 0 (f := 6) (v := .int 0) (ty := .int) (Cn := RX4) (T := TX4) (N := 20) (ws' := (wM cy cz m (ps (ps u1 0 1 (nI (A.S + 1))) 0 1 0))) dX4_grow_36 rfl rfl iX4_grow_X4 tyX4 tyX4_ok nmX4 (by decide) mX4_grow_f49 rfl rfl (rfl) (rfl) (Nat.le_of_ble_eq_true rfl) (wM_s1 cy cz m (ps u1 0 1 (nI (A.S + 1))) 0) ?_
    refine g_aload_n C dX4_grow_39 0 rfl rfl ?_
    refine g_dup C dX4_grow_40 rfl ?_
    refine g_get C 0 (f := 5) (v := .int ((ps u1 0 1 (nI (A.S + 1))) 0 0)) (Cn := RX4) (T := TX4) (N := 20) dX4_grow_41 rfl rfl iX4_grow_X4 (by decide) mX4_grow_f45 rfl ?_
    refine g_top (b := nI A.L) (eL) ?_
    refine g_iconst C (v := 1) dX4_grow_44 (by decide) ?_
    refine g_iadd C dX4_grow_45 ?_
    refine g_top (b := nI (A.L + 1)) (nI_1 _) ?_
    refine g_put C 0 (f := 5) (v := .int (nI (A.L + 1))) (ty := .int) (Cn := RX4) (T := TX4) (N := 20) (ws' := (wM cy cz m (ps (ps (ps u1 0 1 (nI (A.S + 1))) 0 1 0) 0 0 (nI (A.L + 1))))) dX4_grow_46 rfl rfl iX4_grow_X4 tyX4 tyX4_ok nmX4 (by decide) mX4_grow_f45 rfl rfl (rfl) (rfl) (Nat.le_of_ble_eq_true rfl) (wM_s0 cy cz m (ps (ps u1 0 1 (nI (A.S + 1))) 0 1 0) (nI (A.L + 1))) ?_
    have hA : RM A.g0 ((ps (ps (ps u1 0 1 (nI (A.S + 1))) 0 1 0) 0 0 (nI (A.L + 1)))) := ⟨⟨(grow_LI hr.1.1 hr.2.1 hn).1, q1.2⟩, grow_WFa hr.1.1 hr.2.1 hn, congrArg nI (by show A.L + 1 = nxL A.L A.S; unfold nxL; rw [if_pos hx]), congrArg nI (by show 0 = nxS A.L A.S; unfold nxS; rw [if_pos hx])⟩
    refine g_aload_n C dX4_grow_49 0 rfl rfl ?_
    refine g_callVV C [0, 1, 2, 3, 4, 5, 6, 7, 8, 9, 10] [] [0, 1, 2, 3, 4, 5, 6, 7, 8, 9, 10] 0 4 (b := m 0) rfl rfl (As := []) (rest := []) (wr := ([] : va_W)) (wf := fun M3 => (wM cy cz m M3)) dX4_grow_50 gX4_grow_X4_layHeld rfl dmX4_layHeld ⟨rfl, rfl, Nat.le_of_ble_eq_true rfl, Nat.le_of_ble_eq_true rfl, Nat.zero_le _, Nat.zero_le _⟩ (c_X4_layHeld l D cy cz m (ps (ps (ps u1 0 1 (nI (A.S + 1))) 0 1 0) 0 0 (nI (A.L + 1))) A.g0 (A.held A.S) (A.fc + (A.tl A.S).length) A.S A.nb hA q2 (grow_LI hr.1.1 hr.2.1 hn) (grow_room hr.1.1 hS64) (grow_ad hr.2.1)) ⟨rfl, rfl, rfl, rfl, by decide, rfl, fun _ => rfl⟩ (Nat.le_of_ble_eq_true rfl) ?_
    intro M3 hp3
    show G x l (rmF 3 108) D 1 0 0 (wM cy cz m M3) [(0, .ref (m 0))] [] 53
    exact ret M3 _ _ dX4_grow_53 (⟨hp3.1, (congrFun hp3.2.1 2).trans (q3.2.2.2 2 (by decide)), (((KW_s (Or.inr rfl)).tr q3.w).tr (((KW_s (Or.inl (by decide))).tr (KW_s (Or.inl (by decide)))).tr (KW_s (Or.inl (by decide))))).tr hp3.2.h.w⟩)

theorem mX4_shrink_f49 : Cond.fieldLink RX4 49 (TX4 6).1 (TX4 6).2.1 (TX4 6).2.2.1 ∈ wsX4_shrink := List.mem_of_getElem? (i := 1) rfl
theorem iX4_shrink_X4 : ∀ w ∈ wsX40, w ∈ wsX4_shrink := by decide +kernel
theorem mX4_shrink_f45 : Cond.fieldLink RX4 45 (TX4 5).1 (TX4 5).2.1 (TX4 5).2.2.1 ∈ wsX4_shrink := List.mem_of_getElem? (i := 2) rfl
theorem mX4_shrink_f67 : Cond.fieldLink RX4 67 (TX4 19).1 (TX4 19).2.1 (TX4 19).2.2.1 ∈ wsX4_shrink := List.mem_of_getElem? (i := 3) rfl
set_option maxHeartbeats 1600000 in
set_option maxRecDepth 20000 in
theorem c_X4_shrink (l : Launch) (D : va_G) (cy cz : ClassId) (m : Nat → Nat) (M : Mem) (A : AS) (hr : RM A M) (hn : 4 < A.nb) : MV l yX4_shrink wsX4_shrink (rmF 3 108) D (tyL cy cz) [.ref (m 0)] (wM cy cz m M) (fun (M1 : Mem) => RM A.shrink M1 ∧ M1 0 2 = M 0 2 ∧ KW M M1) (fun M1 => (wM cy cz m M1)) := by
  refine g_entV (cc := cX4_shrink) (maxL := 7) (own := RX4) (by decide) rfl rfl (Nat.le_of_ble_eq_true rfl) (fun x C ret => ?_)
  show G x l (rmF 3 108) D 7 0 0 (wM cy cz m M) [(0, .ref (m 0))] [] 0
  obtain ⟨g1, g2, g3, g4⟩ := st_go hr.2.1 hn
  obtain ⟨w1, w2, w3, w4, w5, w6⟩ := pv_ok hr.2.1.1 hr.2.1.2.1 hn
  obtain ⟨hlen, hcl⟩ := shrink_len hr.1.1 hr.2.1 hn
  have n64 := hr.nb64
  have h4 := hr.2.1.1
  have hS6 := hr.S64
  have hfc : A.fc ≤ 64 := frcF_le 64 64
  have l1 := hr.1.1.len g3
  have l2 := hr.1.1.len g4
  refine g_aload_n C dX4_shrink_0 0 rfl rfl ?_
  refine g_callIV C [0, 1, 2, 3, 4, 5, 6, 7, 8, 9, 10] [] [0, 1, 2, 3, 4, 5, 6, 7, 8, 9, 10] 0 4 (b := m 0) rfl rfl (As := []) (rest := []) (wr := ([] : va_W)) (wf := fun _ => (wM cy cz m M)) dX4_shrink_1 gX4_shrink_X4_buckets rfl dmX4_buckets ⟨rfl, rfl, Nat.le_of_ble_eq_true rfl, Nat.le_of_ble_eq_true rfl, Nat.zero_le _, Nat.zero_le _⟩ (c_X4_buckets l D cy cz m M) ⟨rfl, rfl, rfl, rfl, by decide, rfl, fun _ => rfl⟩ (Nat.le_of_ble_eq_true rfl) ?_
  rintro _ - rfl
  show G x l (rmF 3 108) D 7 0 0 (wM cy cz m M) [(0, .ref (m 0))] [.int ((4 <<< (M 0 0 &&& 31)) + M 0 1)] 4
  refine g_top (b := nI A.nb) (hr.nb) ?_
  refine g_iconst C (v := 1) dX4_shrink_4 (by decide) ?_
  refine g_isub C dX4_shrink_5 ?_
  refine g_top (b := nI A.go) (pk_sub (b := 1) (by omega)) ?_
  refine g_istore_n C (lv' := [(1, .int (nI A.go)), (0, .ref (m 0))]) dX4_shrink_6 rfl (by decide) rfl ?_
  refine g_aload_n C dX4_shrink_7 1 rfl rfl ?_
  refine g_get C 0 (f := 6) (v := .int (M 0 1)) (Cn := RX4) (T := TX4) (N := 20) dX4_shrink_8 rfl rfl iX4_shrink_X4 (by decide) mX4_shrink_f49 rfl ?_
  refine g_top (b := nI A.S) (hr.2.2.2) ?_
  refine g_if_ne C (tgt := 23) dX4_shrink_11 (by decide) (fun c1 => ?_) (fun c1 => ?_)
  · skip
    have hS : ¬ A.S = 0 := fun w => c1 (by rw [w]; rfl)
    refine g_aload_n C dX4_shrink_23 1 rfl rfl ?_
    refine g_get C 0 (f := 5) (v := .int (M 0 0)) (Cn := RX4) (T := TX4) (N := 20) dX4_shrink_24 rfl rfl iX4_shrink_X4 (by decide) mX4_shrink_f45 rfl ?_
    refine g_top (b := nI (pvL A.L A.S)) (hr.2.2.1.trans (congrArg nI (by unfold pvL; rw [if_neg hS]))) ?_
    refine g_istore_n C (lv' := [(2, .int (nI (pvL A.L A.S))), (1, .int (nI A.go)), (0, .ref (m 0))]) dX4_shrink_27 rfl (by decide) rfl ?_
    refine g_aload_n C dX4_shrink_28 2 rfl rfl ?_
    refine g_get C 0 (f := 6) (v := .int (M 0 1)) (Cn := RX4) (T := TX4) (N := 20) dX4_shrink_29 rfl rfl iX4_shrink_X4 (by decide) mX4_shrink_f49 rfl ?_
    refine g_top (b := nI A.S) (hr.2.2.2) ?_
    refine g_if_ne C (tgt := 43) dX4_shrink_32 (by decide) (fun c2 => ?_) (fun c2 => ?_)
    · skip
      refine g_aload_n C dX4_shrink_43 2 rfl rfl ?_
      refine g_get C 0 (f := 6) (v := .int (M 0 1)) (Cn := RX4) (T := TX4) (N := 20) dX4_shrink_44 rfl rfl iX4_shrink_X4 (by decide) mX4_shrink_f49 rfl ?_
      refine g_top (b := nI A.S) (hr.2.2.2) ?_
      refine g_iconst C (v := 1) dX4_shrink_47 (by decide) ?_
      refine g_isub C dX4_shrink_48 ?_
      refine g_top (b := nI A.st) ((pk_sub (b := 1) (by omega)).trans (congrArg nI (by unfold AS.st pvS; rw [if_neg hS]))) ?_
      refine g_istore_n C (lv' := [(3, .int (nI A.st)), (2, .int (nI (pvL A.L A.S))), (1, .int (nI A.go)), (0, .ref (m 0))]) dX4_shrink_49 rfl (by decide) rfl ?_
      refine g_aload_n C dX4_shrink_50 3 rfl rfl ?_
      refine g_iload_n C dX4_shrink_51 2 rfl rfl ?_
      refine g_callIV C [0, 1, 2, 3, 4, 5, 6, 7, 8, 9, 10] [] [0, 1, 2, 3, 4, 5, 6, 7, 8, 9, 10] 0 4 (b := m 0) rfl rfl (As := [.int (nI A.go)]) (rest := []) (wr := ([] : va_W)) (wf := fun _ => (wM cy cz m M)) dX4_shrink_52 gX4_shrink_X4_manyIn rfl dmX4_manyIn ⟨rfl, rfl, Nat.le_of_ble_eq_true rfl, Nat.le_of_ble_eq_true rfl, Nat.zero_le _, Nat.zero_le _⟩ (c_X4_manyIn l D cy cz m M A A.go hr.1 g4) ⟨rfl, rfl, rfl, rfl, by decide, rfl, fun _ => rfl⟩ (Nat.le_of_ble_eq_true rfl) ?_
      rintro _ - rfl
      show G x l (rmF 3 108) D 7 0 0 (wM cy cz m M) [(3, .int (nI A.st)), (2, .int (nI (pvL A.L A.S))), (1, .int (nI A.go)), (0, .ref (m 0))] [.int (nI (A.cnt A.go))] 55
      refine g_aload_n C dX4_shrink_55 3 rfl rfl ?_
      refine g_iload_n C dX4_shrink_56 0 rfl rfl ?_
      refine g_callIV C [0, 1, 2, 3, 4, 5, 6, 7, 8, 9, 10] [] [0, 1, 2, 3, 4, 5, 6, 7, 8, 9, 10] 0 4 (b := m 0) rfl rfl (As := [.int (nI A.st)]) (rest := [.int (nI (A.cnt A.go))]) (wr := ([] : va_W)) (wf := fun _ => (wM cy cz m M)) dX4_shrink_57 gX4_shrink_X4_manyIn rfl dmX4_manyIn ⟨rfl, rfl, Nat.le_of_ble_eq_true rfl, Nat.le_of_ble_eq_true rfl, Nat.zero_le _, Nat.zero_le _⟩ (c_X4_manyIn l D cy cz m M A A.st hr.1 g3) ⟨rfl, rfl, rfl, rfl, by decide, rfl, fun _ => rfl⟩ (Nat.le_of_ble_eq_true rfl) ?_
      rintro _ - rfl
      show G x l (rmF 3 108) D 7 0 0 (wM cy cz m M) [(3, .int (nI A.st)), (2, .int (nI (pvL A.L A.S))), (1, .int (nI A.go)), (0, .ref (m 0))] [.int (nI (A.cnt A.st)), .int (nI (A.cnt A.go))] 60
      refine g_iadd C dX4_shrink_60 ?_
      refine g_top (b := nI (A.cnt A.go + A.cnt A.st)) (nI_add _ _) ?_
      refine g_istore C (lv' := [(4, .int (nI (A.cnt A.go + A.cnt A.st))), (3, .int (nI A.st)), (2, .int (nI (pvL A.L A.S))), (1, .int (nI A.go)), (0, .ref (m 0))]) dX4_shrink_61 (by decide) rfl ?_
      refine g_iload C dX4_shrink_63 0 rfl ?_
      refine g_iconst C (v := 4) dX4_shrink_65 (by decide) ?_
      refine g_icmp_gt C (tgt := 73) dX4_shrink_66 (by decide) (fun c3 => ?_) (fun c3 => ?_)
      · skip
        have h5 : 4 < A.cnt A.go + A.cnt A.st := (nI_ltI (a := 4) (by decide) (by omega)).mp c3
        refine g_iload C dX4_shrink_73 0 rfl ?_
        refine g_iconst C (v := 4) dX4_shrink_75 (by decide) ?_
        refine g_iadd C dX4_shrink_76 ?_
        refine g_top (b := nI (A.cnt A.go + A.cnt A.st + 4)) (nI_add _ 4) ?_
        refine g_iconst C (v := 1) dX4_shrink_77 (by decide) ?_
        refine g_isub C dX4_shrink_78 ?_
        refine g_top (b := nI (A.cnt A.go + A.cnt A.st + 3)) ((pk_sub (b := 1) (by omega)).trans (congrArg nI (by omega))) ?_
        refine g_iconst C (v := 4) dX4_shrink_79 (by decide) ?_
        refine g_idiv C dX4_shrink_80 (by decide) ?_
        refine g_top (b := nI ((A.cnt A.go + A.cnt A.st + 3) / 4)) (pk_div (d := 4) (by omega) (by decide) (by decide)) ?_
        refine g_iconst C (v := 1) dX4_shrink_81 (by decide) ?_
        refine g_isub C dX4_shrink_82 ?_
        refine g_top (b := nI (A.need A.st A.go)) ((pk_sub (b := 1) (by omega)).trans (congrArg nI (need_eq A A.st A.go).symm)) ?_
        refine g_istore C (lv' := [(5, .int (nI (A.need A.st A.go))), (4, .int (nI (A.cnt A.go + A.cnt A.st))), (3, .int (nI A.st)), (2, .int (nI (pvL A.L A.S))), (1, .int (nI A.go)), (0, .ref (m 0))]) dX4_shrink_83 (by decide) rfl ?_
        refine g_aload_n C dX4_shrink_85 5 rfl rfl ?_
        refine g_callIV C [0, 1, 2, 3, 4, 5, 6, 7, 8, 9, 10] [] [0, 1, 2, 3, 4, 5, 6, 7, 8, 9, 10] 0 4 (b := m 0) rfl rfl (As := []) (rest := []) (wr := ([] : va_W)) (wf := fun _ => (wM cy cz m M)) dX4_shrink_86 gX4_shrink_X4_freeOnes rfl dmX4_freeOnes ⟨rfl, rfl, Nat.le_of_ble_eq_true rfl, Nat.le_of_ble_eq_true rfl, Nat.zero_le _, Nat.zero_le _⟩ (c_X4_freeOnes l D cy cz m M A hr.1) ⟨rfl, rfl, rfl, rfl, by decide, rfl, fun _ => rfl⟩ (Nat.le_of_ble_eq_true rfl) ?_
        rintro _ - rfl
        show G x l (rmF 3 108) D 7 0 0 (wM cy cz m M) [(5, .int (nI (A.need A.st A.go))), (4, .int (nI (A.cnt A.go + A.cnt A.st))), (3, .int (nI A.st)), (2, .int (nI (pvL A.L A.S))), (1, .int (nI A.go)), (0, .ref (m 0))] [.int (nI A.fc)] 89
        refine g_aload_n C dX4_shrink_89 5 rfl rfl ?_
        refine g_iload_n C dX4_shrink_90 4 rfl rfl ?_
        refine g_callIV C [0, 1, 2, 3, 4, 5, 6, 7, 8, 9, 10] [] [0, 1, 2, 3, 4, 5, 6, 7, 8, 9, 10] 0 4 (b := m 0) rfl rfl (As := [.int (nI A.go)]) (rest := [.int (nI A.fc)]) (wr := ([] : va_W)) (wf := fun _ => (wM cy cz m M)) dX4_shrink_91 gX4_shrink_X4_pagesIn rfl dmX4_pagesIn ⟨rfl, rfl, Nat.le_of_ble_eq_true rfl, Nat.le_of_ble_eq_true rfl, Nat.zero_le _, Nat.zero_le _⟩ (c_X4_pagesIn l D cy cz m M A A.go hr.1 g4) ⟨rfl, rfl, rfl, rfl, by decide, rfl, fun _ => rfl⟩ (Nat.le_of_ble_eq_true rfl) ?_
        rintro _ - rfl
        show G x l (rmF 3 108) D 7 0 0 (wM cy cz m M) [(5, .int (nI (A.need A.st A.go))), (4, .int (nI (A.cnt A.go + A.cnt A.st))), (3, .int (nI A.st)), (2, .int (nI (pvL A.L A.S))), (1, .int (nI A.go)), (0, .ref (m 0))] [.int (nI ((A.tl A.go).length + 1)), .int (nI A.fc)] 94
        refine g_iadd C dX4_shrink_94 ?_
        refine g_top (b := nI (A.fc + ((A.tl A.go).length + 1))) (nI_add _ _) ?_
        refine g_aload_n C dX4_shrink_95 5 rfl rfl ?_
        refine g_iload_n C dX4_shrink_96 2 rfl rfl ?_
        refine g_callIV C [0, 1, 2, 3, 4, 5, 6, 7, 8, 9, 10] [] [0, 1, 2, 3, 4, 5, 6, 7, 8, 9, 10] 0 4 (b := m 0) rfl rfl (As := [.int (nI A.st)]) (rest := [.int (nI (A.fc + ((A.tl A.go).length + 1)))]) (wr := ([] : va_W)) (wf := fun _ => (wM cy cz m M)) dX4_shrink_97 gX4_shrink_X4_pagesIn rfl dmX4_pagesIn ⟨rfl, rfl, Nat.le_of_ble_eq_true rfl, Nat.le_of_ble_eq_true rfl, Nat.zero_le _, Nat.zero_le _⟩ (c_X4_pagesIn l D cy cz m M A A.st hr.1 g3) ⟨rfl, rfl, rfl, rfl, by decide, rfl, fun _ => rfl⟩ (Nat.le_of_ble_eq_true rfl) ?_
        rintro _ - rfl
        show G x l (rmF 3 108) D 7 0 0 (wM cy cz m M) [(5, .int (nI (A.need A.st A.go))), (4, .int (nI (A.cnt A.go + A.cnt A.st))), (3, .int (nI A.st)), (2, .int (nI (pvL A.L A.S))), (1, .int (nI A.go)), (0, .ref (m 0))] [.int (nI ((A.tl A.st).length + 1)), .int (nI (A.fc + ((A.tl A.go).length + 1)))] 100
        refine g_iadd C dX4_shrink_100 ?_
        refine g_top (b := nI (A.fc + ((A.tl A.go).length + 1) + ((A.tl A.st).length + 1))) (nI_add _ _) ?_
        refine g_iconst C (v := 2) dX4_shrink_101 (by decide) ?_
        refine g_isub C dX4_shrink_102 ?_
        refine g_top (b := nI (A.fc + ((A.tl A.st).length + (A.tl A.go).length))) ((pk_sub (b := 2) (by omega)).trans (congrArg nI (by omega))) ?_
        refine g_istore C (lv' := [(6, .int (nI (A.fc + ((A.tl A.st).length + (A.tl A.go).length)))), (5, .int (nI (A.need A.st A.go))), (4, .int (nI (A.cnt A.go + A.cnt A.st))), (3, .int (nI A.st)), (2, .int (nI (pvL A.L A.S))), (1, .int (nI A.go)), (0, .ref (m 0))]) dX4_shrink_103 (by decide) rfl ?_
        refine g_iload C dX4_shrink_105 0 rfl ?_
        refine g_iload C dX4_shrink_107 1 rfl ?_
        refine g_icmp_ge C (tgt := 113) dX4_shrink_109 (by decide) (fun c4 => ?_) (fun c4 => ?_)
        · skip
          have hn1 : A.need A.st A.go ≤ 1000 := by rw [need_eq]; omega
          have hc : A.can A.st A.go := (nI_leI (by omega) (by omega)).mp c4
          refine g_aload_n C dX4_shrink_113 6 rfl rfl ?_
          refine g_iconst C (v := 0) dX4_shrink_114 (by decide) ?_
          refine g_put C 0 (f := 19) (v := .int 0) (ty := .int) (Cn := RX4) (T := TX4) (N := 20) (ws' := (wM cy cz m (ps M 0 9 0))) dX4_shrink_115 rfl rfl iX4_shrink_X4 tyX4 tyX4_ok nmX4 (by decide) mX4_shrink_f67 rfl rfl (rfl) (rfl) (Nat.le_of_ble_eq_true rfl) (wM_s9 cy cz m M 0) ?_
          refine g_aload_n C dX4_shrink_118 6 rfl rfl ?_
          refine g_iload_n C dX4_shrink_119 3 rfl rfl ?_
          refine g_callVV C [0, 1, 2, 3, 4, 5, 6, 7, 8, 9, 10] [] [0, 1, 2, 3, 4, 5, 6, 7, 8, 9, 10] 0 4 (b := m 0) rfl rfl (As := [.int (nI A.st)]) (rest := []) (wr := ([] : va_W)) (wf := fun u1 => (wM cy cz m u1)) dX4_shrink_120 gX4_shrink_X4_hold rfl dmX4_hold ⟨rfl, rfl, Nat.le_of_ble_eq_true rfl, Nat.le_of_ble_eq_true rfl, Nat.zero_le _, Nat.zero_le _⟩ (c_X4_hold l D cy cz m (ps M 0 9 0) A ([]) A.st hr.1 RH_nil g3 (by rw [hr.1.1.sum g3]; show 0 + _ ≤ 512; omega)) ⟨rfl, rfl, rfl, rfl, by decide, rfl, fun _ => rfl⟩ (Nat.le_of_ble_eq_true rfl) ?_
          intro u1 hp1
          show G x l (rmF 3 108) D 7 0 0 (wM cy cz m u1) [(6, .int (nI (A.fc + ((A.tl A.st).length + (A.tl A.go).length)))), (5, .int (nI (A.need A.st A.go))), (4, .int (nI (A.cnt A.go + A.cnt A.st))), (3, .int (nI A.st)), (2, .int (nI (pvL A.L A.S))), (1, .int (nI A.go)), (0, .ref (m 0))] [] 123
          obtain ⟨q1, q2, q3⟩ := hp1
          have q2 : RH u1 (A.held A.st) := q2
          refine g_aload_n C dX4_shrink_123 6 rfl rfl ?_
          refine g_iload_n C dX4_shrink_124 5 rfl rfl ?_
          refine g_callVV C [0, 1, 2, 3, 4, 5, 6, 7, 8, 9, 10] [] [0, 1, 2, 3, 4, 5, 6, 7, 8, 9, 10] 0 4 (b := m 0) rfl rfl (As := [.int (nI A.go)]) (rest := []) (wr := ([] : va_W)) (wf := fun u2 => (wM cy cz m u2)) dX4_shrink_125 gX4_shrink_X4_hold rfl dmX4_hold ⟨rfl, rfl, Nat.le_of_ble_eq_true rfl, Nat.le_of_ble_eq_true rfl, Nat.zero_le _, Nat.zero_le _⟩ (c_X4_hold l D cy cz m u1 (A.clr A.st) (A.held A.st) A.go q1 q2 g4 (by rw [held_len hr.1.1 g3, q1.1.sum g4, (clr_other hr.1.1 g3 g4 (by omega)).2.2.1]; omega)) ⟨rfl, rfl, rfl, rfl, by decide, rfl, fun _ => rfl⟩ (Nat.le_of_ble_eq_true rfl) ?_
          intro u2 hp2
          show G x l (rmF 3 108) D 7 0 0 (wM cy cz m u2) [(6, .int (nI (A.fc + ((A.tl A.st).length + (A.tl A.go).length)))), (5, .int (nI (A.need A.st A.go))), (4, .int (nI (A.cnt A.go + A.cnt A.st))), (3, .int (nI A.st)), (2, .int (nI (pvL A.L A.S))), (1, .int (nI A.go)), (0, .ref (m 0))] [] 128
          obtain ⟨r1, r2, r3⟩ := hp2
          rw [(clr_other hr.1.1 g3 g4 (by omega)).2.2.2] at r2
          refine g_aload_n C dX4_shrink_128 6 rfl rfl ?_
          refine g_iload_n C dX4_shrink_129 4 rfl rfl ?_
          refine g_put C 0 (f := 5) (v := .int (nI (pvL A.L A.S))) (ty := .int) (Cn := RX4) (T := TX4) (N := 20) (ws' := (wM cy cz m (ps u2 0 0 (nI (pvL A.L A.S))))) dX4_shrink_130 rfl rfl iX4_shrink_X4 tyX4 tyX4_ok nmX4 (by decide) mX4_shrink_f45 rfl rfl (rfl) (rfl) (Nat.le_of_ble_eq_true rfl) (wM_s0 cy cz m u2 (nI (pvL A.L A.S))) ?_
          refine g_aload_n C dX4_shrink_133 6 rfl rfl ?_
          refine g_iload_n C dX4_shrink_134 3 rfl rfl ?_
          refine g_put C 0 (f := 6) (v := .int (nI A.st)) (ty := .int) (Cn := RX4) (T := TX4) (N := 20) (ws' := (wM cy cz m (ps (ps u2 0 0 (nI (pvL A.L A.S))) 0 1 (nI A.st)))) dX4_shrink_135 rfl rfl iX4_shrink_X4 tyX4 tyX4_ok nmX4 (by decide) mX4_shrink_f49 rfl rfl (rfl) (rfl) (Nat.le_of_ble_eq_true rfl) (wM_s1 cy cz m (ps u2 0 0 (nI (pvL A.L A.S))) (nI A.st)) ?_
          have hA : RM A.s0 ((ps (ps u2 0 0 (nI (pvL A.L A.S))) 0 1 (nI A.st))) := ⟨⟨(shrink_LI hr.1.1 hr.2.1 hn).1, r1.2⟩, shrink_WFa hr.1.1 hr.2.1 hn, rfl, rfl⟩
          refine g_aload_n C dX4_shrink_138 6 rfl rfl ?_
          refine g_callVV C [0, 1, 2, 3, 4, 5, 6, 7, 8, 9, 10] [] [0, 1, 2, 3, 4, 5, 6, 7, 8, 9, 10] 0 4 (b := m 0) rfl rfl (As := []) (rest := []) (wr := ([] : va_W)) (wf := fun M3 => (wM cy cz m M3)) dX4_shrink_139 gX4_shrink_X4_layHeld rfl dmX4_layHeld ⟨rfl, rfl, Nat.le_of_ble_eq_true rfl, Nat.le_of_ble_eq_true rfl, Nat.zero_le _, Nat.zero_le _⟩ (c_X4_layHeld l D cy cz m (ps (ps u2 0 0 (nI (pvL A.L A.S))) 0 1 (nI A.st)) A.s0 (A.held A.st ++ A.held A.go) (A.fc + ((A.tl A.st).length + (A.tl A.go).length)) A.st A.go hA r2 (shrink_LI hr.1.1 hr.2.1 hn) (shrink_room hr.1.1 hr.2.1 hn hc) (fun kv hk => Or.inl (shrink_key hr.2.1 hn kv hk))) ⟨rfl, rfl, rfl, rfl, by decide, rfl, fun _ => rfl⟩ (Nat.le_of_ble_eq_true rfl) ?_
          intro M3 hp3
          show G x l (rmF 3 108) D 7 0 0 (wM cy cz m M3) [(6, .int (nI (A.fc + ((A.tl A.st).length + (A.tl A.go).length)))), (5, .int (nI (A.need A.st A.go))), (4, .int (nI (A.cnt A.go + A.cnt A.st))), (3, .int (nI A.st)), (2, .int (nI (pvL A.L A.S))), (1, .int (nI A.go)), (0, .ref (m 0))] [] 142
          exact ret M3 _ _ dX4_shrink_142 (⟨by unfold AS.shrink; rw [if_pos hc]; exact hp3.1, ((congrFun hp3.2.1 2).trans (r3.2.2.2 2 (by decide))).trans (q3.2.2.2 2 (by decide)), ((((KW_s (Or.inr rfl)).tr q3.w).tr r3.w).tr ((KW_s (Or.inl (by decide))).tr (KW_s (Or.inl (by decide))))).tr hp3.2.h.w⟩)
        · skip
          have hn1 : A.need A.st A.go ≤ 1000 := by rw [need_eq]; omega
          have hc : ¬ A.can A.st A.go := fun w => c4 (nI_le w (by omega))
          exact ret M _ _ dX4_shrink_112 (⟨by unfold AS.shrink; rw [if_neg hc]; exact hr, rfl, KW.rf M⟩)
      · skip
        have h5 : ¬ 4 < A.cnt A.go + A.cnt A.st := fun w => c3 (nI_lt (a := 4) w (by omega))
        refine g_iconst C (v := 0) dX4_shrink_69 (by decide) ?_
        refine g_top (b := nI (A.need A.st A.go)) ((congrArg nI (by rw [need_eq]; omega) : nI 0 = _)) ?_
        refine g_goto C (tgt := 83) dX4_shrink_70 (by decide) ?_
        refine g_istore C (lv' := [(5, .int (nI (A.need A.st A.go))), (4, .int (nI (A.cnt A.go + A.cnt A.st))), (3, .int (nI A.st)), (2, .int (nI (pvL A.L A.S))), (1, .int (nI A.go)), (0, .ref (m 0))]) dX4_shrink_83 (by decide) rfl ?_
        refine g_aload_n C dX4_shrink_85 5 rfl rfl ?_
        refine g_callIV C [0, 1, 2, 3, 4, 5, 6, 7, 8, 9, 10] [] [0, 1, 2, 3, 4, 5, 6, 7, 8, 9, 10] 0 4 (b := m 0) rfl rfl (As := []) (rest := []) (wr := ([] : va_W)) (wf := fun _ => (wM cy cz m M)) dX4_shrink_86 gX4_shrink_X4_freeOnes rfl dmX4_freeOnes ⟨rfl, rfl, Nat.le_of_ble_eq_true rfl, Nat.le_of_ble_eq_true rfl, Nat.zero_le _, Nat.zero_le _⟩ (c_X4_freeOnes l D cy cz m M A hr.1) ⟨rfl, rfl, rfl, rfl, by decide, rfl, fun _ => rfl⟩ (Nat.le_of_ble_eq_true rfl) ?_
        rintro _ - rfl
        show G x l (rmF 3 108) D 7 0 0 (wM cy cz m M) [(5, .int (nI (A.need A.st A.go))), (4, .int (nI (A.cnt A.go + A.cnt A.st))), (3, .int (nI A.st)), (2, .int (nI (pvL A.L A.S))), (1, .int (nI A.go)), (0, .ref (m 0))] [.int (nI A.fc)] 89
        refine g_aload_n C dX4_shrink_89 5 rfl rfl ?_
        refine g_iload_n C dX4_shrink_90 4 rfl rfl ?_
        refine g_callIV C [0, 1, 2, 3, 4, 5, 6, 7, 8, 9, 10] [] [0, 1, 2, 3, 4, 5, 6, 7, 8, 9, 10] 0 4 (b := m 0) rfl rfl (As := [.int (nI A.go)]) (rest := [.int (nI A.fc)]) (wr := ([] : va_W)) (wf := fun _ => (wM cy cz m M)) dX4_shrink_91 gX4_shrink_X4_pagesIn rfl dmX4_pagesIn ⟨rfl, rfl, Nat.le_of_ble_eq_true rfl, Nat.le_of_ble_eq_true rfl, Nat.zero_le _, Nat.zero_le _⟩ (c_X4_pagesIn l D cy cz m M A A.go hr.1 g4) ⟨rfl, rfl, rfl, rfl, by decide, rfl, fun _ => rfl⟩ (Nat.le_of_ble_eq_true rfl) ?_
        rintro _ - rfl
        show G x l (rmF 3 108) D 7 0 0 (wM cy cz m M) [(5, .int (nI (A.need A.st A.go))), (4, .int (nI (A.cnt A.go + A.cnt A.st))), (3, .int (nI A.st)), (2, .int (nI (pvL A.L A.S))), (1, .int (nI A.go)), (0, .ref (m 0))] [.int (nI ((A.tl A.go).length + 1)), .int (nI A.fc)] 94
        refine g_iadd C dX4_shrink_94 ?_
        refine g_top (b := nI (A.fc + ((A.tl A.go).length + 1))) (nI_add _ _) ?_
        refine g_aload_n C dX4_shrink_95 5 rfl rfl ?_
        refine g_iload_n C dX4_shrink_96 2 rfl rfl ?_
        refine g_callIV C [0, 1, 2, 3, 4, 5, 6, 7, 8, 9, 10] [] [0, 1, 2, 3, 4, 5, 6, 7, 8, 9, 10] 0 4 (b := m 0) rfl rfl (As := [.int (nI A.st)]) (rest := [.int (nI (A.fc + ((A.tl A.go).length + 1)))]) (wr := ([] : va_W)) (wf := fun _ => (wM cy cz m M)) dX4_shrink_97 gX4_shrink_X4_pagesIn rfl dmX4_pagesIn ⟨rfl, rfl, Nat.le_of_ble_eq_true rfl, Nat.le_of_ble_eq_true rfl, Nat.zero_le _, Nat.zero_le _⟩ (c_X4_pagesIn l D cy cz m M A A.st hr.1 g3) ⟨rfl, rfl, rfl, rfl, by decide, rfl, fun _ => rfl⟩ (Nat.le_of_ble_eq_true rfl) ?_
        rintro _ - rfl
        show G x l (rmF 3 108) D 7 0 0 (wM cy cz m M) [(5, .int (nI (A.need A.st A.go))), (4, .int (nI (A.cnt A.go + A.cnt A.st))), (3, .int (nI A.st)), (2, .int (nI (pvL A.L A.S))), (1, .int (nI A.go)), (0, .ref (m 0))] [.int (nI ((A.tl A.st).length + 1)), .int (nI (A.fc + ((A.tl A.go).length + 1)))] 100
        refine g_iadd C dX4_shrink_100 ?_
        refine g_top (b := nI (A.fc + ((A.tl A.go).length + 1) + ((A.tl A.st).length + 1))) (nI_add _ _) ?_
        refine g_iconst C (v := 2) dX4_shrink_101 (by decide) ?_
        refine g_isub C dX4_shrink_102 ?_
        refine g_top (b := nI (A.fc + ((A.tl A.st).length + (A.tl A.go).length))) ((pk_sub (b := 2) (by omega)).trans (congrArg nI (by omega))) ?_
        refine g_istore C (lv' := [(6, .int (nI (A.fc + ((A.tl A.st).length + (A.tl A.go).length)))), (5, .int (nI (A.need A.st A.go))), (4, .int (nI (A.cnt A.go + A.cnt A.st))), (3, .int (nI A.st)), (2, .int (nI (pvL A.L A.S))), (1, .int (nI A.go)), (0, .ref (m 0))]) dX4_shrink_103 (by decide) rfl ?_
        refine g_iload C dX4_shrink_105 0 rfl ?_
        refine g_iload C dX4_shrink_107 1 rfl ?_
        refine g_icmp_ge C (tgt := 113) dX4_shrink_109 (by decide) (fun c4 => ?_) (fun c4 => ?_)
        · skip
          have hn1 : A.need A.st A.go ≤ 1000 := by rw [need_eq]; omega
          have hc : A.can A.st A.go := (nI_leI (by omega) (by omega)).mp c4
          refine g_aload_n C dX4_shrink_113 6 rfl rfl ?_
          refine g_iconst C (v := 0) dX4_shrink_114 (by decide) ?_
          refine g_put C 0 (f := 19) (v := .int 0) (ty := .int) (Cn := RX4) (T := TX4) (N := 20) (ws' := (wM cy cz m (ps M 0 9 0))) dX4_shrink_115 rfl rfl iX4_shrink_X4 tyX4 tyX4_ok nmX4 (by decide) mX4_shrink_f67 rfl rfl (rfl) (rfl) (Nat.le_of_ble_eq_true rfl) (wM_s9 cy cz m M 0) ?_
          refine g_aload_n C dX4_shrink_118 6 rfl rfl ?_
          refine g_iload_n C dX4_shrink_119 3 rfl rfl ?_
          refine g_callVV C [0, 1, 2, 3, 4, 5, 6, 7, 8, 9, 10] [] [0, 1, 2, 3, 4, 5, 6, 7, 8, 9, 10] 0 4 (b := m 0) rfl rfl (As := [.int (nI A.st)]) (rest := []) (wr := ([] : va_W)) (wf := fun u1 => (wM cy cz m u1)) dX4_shrink_120 gX4_shrink_X4_hold rfl dmX4_hold ⟨rfl, rfl, Nat.le_of_ble_eq_true rfl, Nat.le_of_ble_eq_true rfl, Nat.zero_le _, Nat.zero_le _⟩ (c_X4_hold l D cy cz m (ps M 0 9 0) A ([]) A.st hr.1 RH_nil g3 (by rw [hr.1.1.sum g3]; show 0 + _ ≤ 512; omega)) ⟨rfl, rfl, rfl, rfl, by decide, rfl, fun _ => rfl⟩ (Nat.le_of_ble_eq_true rfl) ?_
          intro u1 hp1
          show G x l (rmF 3 108) D 7 0 0 (wM cy cz m u1) [(6, .int (nI (A.fc + ((A.tl A.st).length + (A.tl A.go).length)))), (5, .int (nI (A.need A.st A.go))), (4, .int (nI (A.cnt A.go + A.cnt A.st))), (3, .int (nI A.st)), (2, .int (nI (pvL A.L A.S))), (1, .int (nI A.go)), (0, .ref (m 0))] [] 123
          obtain ⟨q1, q2, q3⟩ := hp1
          have q2 : RH u1 (A.held A.st) := q2
          refine g_aload_n C dX4_shrink_123 6 rfl rfl ?_
          refine g_iload_n C dX4_shrink_124 5 rfl rfl ?_
          refine g_callVV C [0, 1, 2, 3, 4, 5, 6, 7, 8, 9, 10] [] [0, 1, 2, 3, 4, 5, 6, 7, 8, 9, 10] 0 4 (b := m 0) rfl rfl (As := [.int (nI A.go)]) (rest := []) (wr := ([] : va_W)) (wf := fun u2 => (wM cy cz m u2)) dX4_shrink_125 gX4_shrink_X4_hold rfl dmX4_hold ⟨rfl, rfl, Nat.le_of_ble_eq_true rfl, Nat.le_of_ble_eq_true rfl, Nat.zero_le _, Nat.zero_le _⟩ (c_X4_hold l D cy cz m u1 (A.clr A.st) (A.held A.st) A.go q1 q2 g4 (by rw [held_len hr.1.1 g3, q1.1.sum g4, (clr_other hr.1.1 g3 g4 (by omega)).2.2.1]; omega)) ⟨rfl, rfl, rfl, rfl, by decide, rfl, fun _ => rfl⟩ (Nat.le_of_ble_eq_true rfl) ?_
          intro u2 hp2
          show G x l (rmF 3 108) D 7 0 0 (wM cy cz m u2) [(6, .int (nI (A.fc + ((A.tl A.st).length + (A.tl A.go).length)))), (5, .int (nI (A.need A.st A.go))), (4, .int (nI (A.cnt A.go + A.cnt A.st))), (3, .int (nI A.st)), (2, .int (nI (pvL A.L A.S))), (1, .int (nI A.go)), (0, .ref (m 0))] [] 128
          obtain ⟨r1, r2, r3⟩ := hp2
          rw [(clr_other hr.1.1 g3 g4 (by omega)).2.2.2] at r2
          refine g_aload_n C dX4_shrink_128 6 rfl rfl ?_
          refine g_iload_n C dX4_shrink_129 4 rfl rfl ?_
          refine g_put C 0 (f := 5) (v := .int (nI (pvL A.L A.S))) (ty := .int) (Cn := RX4) (T := TX4) (N := 20) (ws' := (wM cy cz m (ps u2 0 0 (nI (pvL A.L A.S))))) dX4_shrink_130 rfl rfl iX4_shrink_X4 tyX4 tyX4_ok nmX4 (by decide) mX4_shrink_f45 rfl rfl (rfl) (rfl) (Nat.le_of_ble_eq_true rfl) (wM_s0 cy cz m u2 (nI (pvL A.L A.S))) ?_
          refine g_aload_n C dX4_shrink_133 6 rfl rfl ?_
          refine g_iload_n C dX4_shrink_134 3 rfl rfl ?_
          refine g_put C 0 (f := 6) (v := .int (nI A.st)) (ty := .int) (Cn := RX4) (T := TX4) (N := 20) (ws' := (wM cy cz m (ps (ps u2 0 0 (nI (pvL A.L A.S))) 0 1 (nI A.st)))) dX4_shrink_135 rfl rfl iX4_shrink_X4 tyX4 tyX4_ok nmX4 (by decide) mX4_shrink_f49 rfl rfl (rfl) (rfl) (Nat.le_of_ble_eq_true rfl) (wM_s1 cy cz m (ps u2 0 0 (nI (pvL A.L A.S))) (nI A.st)) ?_
          have hA : RM A.s0 ((ps (ps u2 0 0 (nI (pvL A.L A.S))) 0 1 (nI A.st))) := ⟨⟨(shrink_LI hr.1.1 hr.2.1 hn).1, r1.2⟩, shrink_WFa hr.1.1 hr.2.1 hn, rfl, rfl⟩
          refine g_aload_n C dX4_shrink_138 6 rfl rfl ?_
          refine g_callVV C [0, 1, 2, 3, 4, 5, 6, 7, 8, 9, 10] [] [0, 1, 2, 3, 4, 5, 6, 7, 8, 9, 10] 0 4 (b := m 0) rfl rfl (As := []) (rest := []) (wr := ([] : va_W)) (wf := fun M3 => (wM cy cz m M3)) dX4_shrink_139 gX4_shrink_X4_layHeld rfl dmX4_layHeld ⟨rfl, rfl, Nat.le_of_ble_eq_true rfl, Nat.le_of_ble_eq_true rfl, Nat.zero_le _, Nat.zero_le _⟩ (c_X4_layHeld l D cy cz m (ps (ps u2 0 0 (nI (pvL A.L A.S))) 0 1 (nI A.st)) A.s0 (A.held A.st ++ A.held A.go) (A.fc + ((A.tl A.st).length + (A.tl A.go).length)) A.st A.go hA r2 (shrink_LI hr.1.1 hr.2.1 hn) (shrink_room hr.1.1 hr.2.1 hn hc) (fun kv hk => Or.inl (shrink_key hr.2.1 hn kv hk))) ⟨rfl, rfl, rfl, rfl, by decide, rfl, fun _ => rfl⟩ (Nat.le_of_ble_eq_true rfl) ?_
          intro M3 hp3
          show G x l (rmF 3 108) D 7 0 0 (wM cy cz m M3) [(6, .int (nI (A.fc + ((A.tl A.st).length + (A.tl A.go).length)))), (5, .int (nI (A.need A.st A.go))), (4, .int (nI (A.cnt A.go + A.cnt A.st))), (3, .int (nI A.st)), (2, .int (nI (pvL A.L A.S))), (1, .int (nI A.go)), (0, .ref (m 0))] [] 142
          exact ret M3 _ _ dX4_shrink_142 (⟨by unfold AS.shrink; rw [if_pos hc]; exact hp3.1, ((congrFun hp3.2.1 2).trans (r3.2.2.2 2 (by decide))).trans (q3.2.2.2 2 (by decide)), ((((KW_s (Or.inr rfl)).tr q3.w).tr r3.w).tr ((KW_s (Or.inl (by decide))).tr (KW_s (Or.inl (by decide))))).tr hp3.2.h.w⟩)
        · skip
          have hn1 : A.need A.st A.go ≤ 1000 := by rw [need_eq]; omega
          have hc : ¬ A.can A.st A.go := fun w => c4 (nI_le w (by omega))
          exact ret M _ _ dX4_shrink_112 (⟨by unfold AS.shrink; rw [if_neg hc]; exact hr, rfl, KW.rf M⟩)
    · skip
      exact absurd c2 (fun w => hS ((nI_eq (b := 0) (by omega) (by decide)).mp w))
  · skip
    have hS : A.S = 0 := (nI_eq (b := 0) (by omega) (by decide)).mp c1
    refine g_aload_n C dX4_shrink_14 1 rfl rfl ?_
    refine g_get C 0 (f := 5) (v := .int (M 0 0)) (Cn := RX4) (T := TX4) (N := 20) dX4_shrink_15 rfl rfl iX4_shrink_X4 (by decide) mX4_shrink_f45 rfl ?_
    refine g_top (b := nI A.L) (hr.2.2.1) ?_
    refine g_iconst C (v := 1) dX4_shrink_18 (by decide) ?_
    refine g_isub C dX4_shrink_19 ?_
    refine g_top (b := nI (pvL A.L A.S)) ((pk_sub (b := 1) (by have hq := hn; unfold AS.nb nbN at hq; rw [hS] at hq; cases hL : A.L with | zero => rw [hL] at hq; omega | succ n => omega)).trans (congrArg nI (by unfold pvL; rw [if_pos hS]))) ?_
    refine g_goto C (tgt := 27) dX4_shrink_20 (by decide) ?_
    refine g_istore_n C (lv' := [(2, .int (nI (pvL A.L A.S))), (1, .int (nI A.go)), (0, .ref (m 0))]) dX4_shrink_27 rfl (by decide) rfl ?_
    refine g_aload_n C dX4_shrink_28 2 rfl rfl ?_
    refine g_get C 0 (f := 6) (v := .int (M 0 1)) (Cn := RX4) (T := TX4) (N := 20) dX4_shrink_29 rfl rfl iX4_shrink_X4 (by decide) mX4_shrink_f49 rfl ?_
    refine g_top (b := nI A.S) (hr.2.2.2) ?_
    refine g_if_ne C (tgt := 43) dX4_shrink_32 (by decide) (fun c2 => ?_) (fun c2 => ?_)
    · skip
      exact absurd c1 (c2)
    · skip
      refine g_iconst C (v := 4) dX4_shrink_35 (by decide) ?_
      refine g_iload_n C dX4_shrink_36 0 rfl rfl ?_
      refine g_ishl C dX4_shrink_37 ?_
      refine g_top (b := nI (4 * 2 ^ pvL A.L A.S)) (base_eq w1) ?_
      refine g_iconst C (v := 1) dX4_shrink_38 (by decide) ?_
      refine g_isub C dX4_shrink_39 ?_
      refine g_top (b := nI A.st) ((pk_sub (b := 1) (by omega)).trans (congrArg nI (by unfold AS.st pvS pvL; rw [if_pos hS, if_pos hS]))) ?_
      refine g_goto C (tgt := 49) dX4_shrink_40 (by decide) ?_
      refine g_istore_n C (lv' := [(3, .int (nI A.st)), (2, .int (nI (pvL A.L A.S))), (1, .int (nI A.go)), (0, .ref (m 0))]) dX4_shrink_49 rfl (by decide) rfl ?_
      refine g_aload_n C dX4_shrink_50 3 rfl rfl ?_
      refine g_iload_n C dX4_shrink_51 2 rfl rfl ?_
      refine g_callIV C [0, 1, 2, 3, 4, 5, 6, 7, 8, 9, 10] [] [0, 1, 2, 3, 4, 5, 6, 7, 8, 9, 10] 0 4 (b := m 0) rfl rfl (As := [.int (nI A.go)]) (rest := []) (wr := ([] : va_W)) (wf := fun _ => (wM cy cz m M)) dX4_shrink_52 gX4_shrink_X4_manyIn rfl dmX4_manyIn ⟨rfl, rfl, Nat.le_of_ble_eq_true rfl, Nat.le_of_ble_eq_true rfl, Nat.zero_le _, Nat.zero_le _⟩ (c_X4_manyIn l D cy cz m M A A.go hr.1 g4) ⟨rfl, rfl, rfl, rfl, by decide, rfl, fun _ => rfl⟩ (Nat.le_of_ble_eq_true rfl) ?_
      rintro _ - rfl
      show G x l (rmF 3 108) D 7 0 0 (wM cy cz m M) [(3, .int (nI A.st)), (2, .int (nI (pvL A.L A.S))), (1, .int (nI A.go)), (0, .ref (m 0))] [.int (nI (A.cnt A.go))] 55
      refine g_aload_n C dX4_shrink_55 3 rfl rfl ?_
      refine g_iload_n C dX4_shrink_56 0 rfl rfl ?_
      refine g_callIV C [0, 1, 2, 3, 4, 5, 6, 7, 8, 9, 10] [] [0, 1, 2, 3, 4, 5, 6, 7, 8, 9, 10] 0 4 (b := m 0) rfl rfl (As := [.int (nI A.st)]) (rest := [.int (nI (A.cnt A.go))]) (wr := ([] : va_W)) (wf := fun _ => (wM cy cz m M)) dX4_shrink_57 gX4_shrink_X4_manyIn rfl dmX4_manyIn ⟨rfl, rfl, Nat.le_of_ble_eq_true rfl, Nat.le_of_ble_eq_true rfl, Nat.zero_le _, Nat.zero_le _⟩ (c_X4_manyIn l D cy cz m M A A.st hr.1 g3) ⟨rfl, rfl, rfl, rfl, by decide, rfl, fun _ => rfl⟩ (Nat.le_of_ble_eq_true rfl) ?_
      rintro _ - rfl
      show G x l (rmF 3 108) D 7 0 0 (wM cy cz m M) [(3, .int (nI A.st)), (2, .int (nI (pvL A.L A.S))), (1, .int (nI A.go)), (0, .ref (m 0))] [.int (nI (A.cnt A.st)), .int (nI (A.cnt A.go))] 60
      refine g_iadd C dX4_shrink_60 ?_
      refine g_top (b := nI (A.cnt A.go + A.cnt A.st)) (nI_add _ _) ?_
      refine g_istore C (lv' := [(4, .int (nI (A.cnt A.go + A.cnt A.st))), (3, .int (nI A.st)), (2, .int (nI (pvL A.L A.S))), (1, .int (nI A.go)), (0, .ref (m 0))]) dX4_shrink_61 (by decide) rfl ?_
      refine g_iload C dX4_shrink_63 0 rfl ?_
      refine g_iconst C (v := 4) dX4_shrink_65 (by decide) ?_
      refine g_icmp_gt C (tgt := 73) dX4_shrink_66 (by decide) (fun c3 => ?_) (fun c3 => ?_)
      · skip
        have h5 : 4 < A.cnt A.go + A.cnt A.st := (nI_ltI (a := 4) (by decide) (by omega)).mp c3
        refine g_iload C dX4_shrink_73 0 rfl ?_
        refine g_iconst C (v := 4) dX4_shrink_75 (by decide) ?_
        refine g_iadd C dX4_shrink_76 ?_
        refine g_top (b := nI (A.cnt A.go + A.cnt A.st + 4)) (nI_add _ 4) ?_
        refine g_iconst C (v := 1) dX4_shrink_77 (by decide) ?_
        refine g_isub C dX4_shrink_78 ?_
        refine g_top (b := nI (A.cnt A.go + A.cnt A.st + 3)) ((pk_sub (b := 1) (by omega)).trans (congrArg nI (by omega))) ?_
        refine g_iconst C (v := 4) dX4_shrink_79 (by decide) ?_
        refine g_idiv C dX4_shrink_80 (by decide) ?_
        refine g_top (b := nI ((A.cnt A.go + A.cnt A.st + 3) / 4)) (pk_div (d := 4) (by omega) (by decide) (by decide)) ?_
        refine g_iconst C (v := 1) dX4_shrink_81 (by decide) ?_
        refine g_isub C dX4_shrink_82 ?_
        refine g_top (b := nI (A.need A.st A.go)) ((pk_sub (b := 1) (by omega)).trans (congrArg nI (need_eq A A.st A.go).symm)) ?_
        refine g_istore C (lv' := [(5, .int (nI (A.need A.st A.go))), (4, .int (nI (A.cnt A.go + A.cnt A.st))), (3, .int (nI A.st)), (2, .int (nI (pvL A.L A.S))), (1, .int (nI A.go)), (0, .ref (m 0))]) dX4_shrink_83 (by decide) rfl ?_
        refine g_aload_n C dX4_shrink_85 5 rfl rfl ?_
        refine g_callIV C [0, 1, 2, 3, 4, 5, 6, 7, 8, 9, 10] [] [0, 1, 2, 3, 4, 5, 6, 7, 8, 9, 10] 0 4 (b := m 0) rfl rfl (As := []) (rest := []) (wr := ([] : va_W)) (wf := fun _ => (wM cy cz m M)) dX4_shrink_86 gX4_shrink_X4_freeOnes rfl dmX4_freeOnes ⟨rfl, rfl, Nat.le_of_ble_eq_true rfl, Nat.le_of_ble_eq_true rfl, Nat.zero_le _, Nat.zero_le _⟩ (c_X4_freeOnes l D cy cz m M A hr.1) ⟨rfl, rfl, rfl, rfl, by decide, rfl, fun _ => rfl⟩ (Nat.le_of_ble_eq_true rfl) ?_
        rintro _ - rfl
        show G x l (rmF 3 108) D 7 0 0 (wM cy cz m M) [(5, .int (nI (A.need A.st A.go))), (4, .int (nI (A.cnt A.go + A.cnt A.st))), (3, .int (nI A.st)), (2, .int (nI (pvL A.L A.S))), (1, .int (nI A.go)), (0, .ref (m 0))] [.int (nI A.fc)] 89
        refine g_aload_n C dX4_shrink_89 5 rfl rfl ?_
        refine g_iload_n C dX4_shrink_90 4 rfl rfl ?_
        refine g_callIV C [0, 1, 2, 3, 4, 5, 6, 7, 8, 9, 10] [] [0, 1, 2, 3, 4, 5, 6, 7, 8, 9, 10] 0 4 (b := m 0) rfl rfl (As := [.int (nI A.go)]) (rest := [.int (nI A.fc)]) (wr := ([] : va_W)) (wf := fun _ => (wM cy cz m M)) dX4_shrink_91 gX4_shrink_X4_pagesIn rfl dmX4_pagesIn ⟨rfl, rfl, Nat.le_of_ble_eq_true rfl, Nat.le_of_ble_eq_true rfl, Nat.zero_le _, Nat.zero_le _⟩ (c_X4_pagesIn l D cy cz m M A A.go hr.1 g4) ⟨rfl, rfl, rfl, rfl, by decide, rfl, fun _ => rfl⟩ (Nat.le_of_ble_eq_true rfl) ?_
        rintro _ - rfl
        show G x l (rmF 3 108) D 7 0 0 (wM cy cz m M) [(5, .int (nI (A.need A.st A.go))), (4, .int (nI (A.cnt A.go + A.cnt A.st))), (3, .int (nI A.st)), (2, .int (nI (pvL A.L A.S))), (1, .int (nI A.go)), (0, .ref (m 0))] [.int (nI ((A.tl A.go).length + 1)), .int (nI A.fc)] 94
        refine g_iadd C dX4_shrink_94 ?_
        refine g_top (b := nI (A.fc + ((A.tl A.go).length + 1))) (nI_add _ _) ?_
        refine g_aload_n C dX4_shrink_95 5 rfl rfl ?_
        refine g_iload_n C dX4_shrink_96 2 rfl rfl ?_
        refine g_callIV C [0, 1, 2, 3, 4, 5, 6, 7, 8, 9, 10] [] [0, 1, 2, 3, 4, 5, 6, 7, 8, 9, 10] 0 4 (b := m 0) rfl rfl (As := [.int (nI A.st)]) (rest := [.int (nI (A.fc + ((A.tl A.go).length + 1)))]) (wr := ([] : va_W)) (wf := fun _ => (wM cy cz m M)) dX4_shrink_97 gX4_shrink_X4_pagesIn rfl dmX4_pagesIn ⟨rfl, rfl, Nat.le_of_ble_eq_true rfl, Nat.le_of_ble_eq_true rfl, Nat.zero_le _, Nat.zero_le _⟩ (c_X4_pagesIn l D cy cz m M A A.st hr.1 g3) ⟨rfl, rfl, rfl, rfl, by decide, rfl, fun _ => rfl⟩ (Nat.le_of_ble_eq_true rfl) ?_
        rintro _ - rfl
        show G x l (rmF 3 108) D 7 0 0 (wM cy cz m M) [(5, .int (nI (A.need A.st A.go))), (4, .int (nI (A.cnt A.go + A.cnt A.st))), (3, .int (nI A.st)), (2, .int (nI (pvL A.L A.S))), (1, .int (nI A.go)), (0, .ref (m 0))] [.int (nI ((A.tl A.st).length + 1)), .int (nI (A.fc + ((A.tl A.go).length + 1)))] 100
        refine g_iadd C dX4_shrink_100 ?_
        refine g_top (b := nI (A.fc + ((A.tl A.go).length + 1) + ((A.tl A.st).length + 1))) (nI_add _ _) ?_
        refine g_iconst C (v := 2) dX4_shrink_101 (by decide) ?_
        refine g_isub C dX4_shrink_102 ?_
        refine g_top (b := nI (A.fc + ((A.tl A.st).length + (A.tl A.go).length))) ((pk_sub (b := 2) (by omega)).trans (congrArg nI (by omega))) ?_
        refine g_istore C (lv' := [(6, .int (nI (A.fc + ((A.tl A.st).length + (A.tl A.go).length)))), (5, .int (nI (A.need A.st A.go))), (4, .int (nI (A.cnt A.go + A.cnt A.st))), (3, .int (nI A.st)), (2, .int (nI (pvL A.L A.S))), (1, .int (nI A.go)), (0, .ref (m 0))]) dX4_shrink_103 (by decide) rfl ?_
        refine g_iload C dX4_shrink_105 0 rfl ?_
        refine g_iload C dX4_shrink_107 1 rfl ?_
        refine g_icmp_ge C (tgt := 113) dX4_shrink_109 (by decide) (fun c4 => ?_) (fun c4 => ?_)
        · skip
          have hn1 : A.need A.st A.go ≤ 1000 := by rw [need_eq]; omega
          have hc : A.can A.st A.go := (nI_leI (by omega) (by omega)).mp c4
          refine g_aload_n C dX4_shrink_113 6 rfl rfl ?_
          refine g_iconst C (v := 0) dX4_shrink_114 (by decide) ?_
          refine g_put C 0 (f := 19) (v := .int 0) (ty := .int) (Cn := RX4) (T := TX4) (N := 20) (ws' := (wM cy cz m (ps M 0 9 0))) dX4_shrink_115 rfl rfl iX4_shrink_X4 tyX4 tyX4_ok nmX4 (by decide) mX4_shrink_f67 rfl rfl (rfl) (rfl) (Nat.le_of_ble_eq_true rfl) (wM_s9 cy cz m M 0) ?_
          refine g_aload_n C dX4_shrink_118 6 rfl rfl ?_
          refine g_iload_n C dX4_shrink_119 3 rfl rfl ?_
          refine g_callVV C [0, 1, 2, 3, 4, 5, 6, 7, 8, 9, 10] [] [0, 1, 2, 3, 4, 5, 6, 7, 8, 9, 10] 0 4 (b := m 0) rfl rfl (As := [.int (nI A.st)]) (rest := []) (wr := ([] : va_W)) (wf := fun u1 => (wM cy cz m u1)) dX4_shrink_120 gX4_shrink_X4_hold rfl dmX4_hold ⟨rfl, rfl, Nat.le_of_ble_eq_true rfl, Nat.le_of_ble_eq_true rfl, Nat.zero_le _, Nat.zero_le _⟩ (c_X4_hold l D cy cz m (ps M 0 9 0) A ([]) A.st hr.1 RH_nil g3 (by rw [hr.1.1.sum g3]; show 0 + _ ≤ 512; omega)) ⟨rfl, rfl, rfl, rfl, by decide, rfl, fun _ => rfl⟩ (Nat.le_of_ble_eq_true rfl) ?_
          intro u1 hp1
          show G x l (rmF 3 108) D 7 0 0 (wM cy cz m u1) [(6, .int (nI (A.fc + ((A.tl A.st).length + (A.tl A.go).length)))), (5, .int (nI (A.need A.st A.go))), (4, .int (nI (A.cnt A.go + A.cnt A.st))), (3, .int (nI A.st)), (2, .int (nI (pvL A.L A.S))), (1, .int (nI A.go)), (0, .ref (m 0))] [] 123
          obtain ⟨q1, q2, q3⟩ := hp1
          have q2 : RH u1 (A.held A.st) := q2
          refine g_aload_n C dX4_shrink_123 6 rfl rfl ?_
          refine g_iload_n C dX4_shrink_124 5 rfl rfl ?_
          refine g_callVV C [0, 1, 2, 3, 4, 5, 6, 7, 8, 9, 10] [] [0, 1, 2, 3, 4, 5, 6, 7, 8, 9, 10] 0 4 (b := m 0) rfl rfl (As := [.int (nI A.go)]) (rest := []) (wr := ([] : va_W)) (wf := fun u2 => (wM cy cz m u2)) dX4_shrink_125 gX4_shrink_X4_hold rfl dmX4_hold ⟨rfl, rfl, Nat.le_of_ble_eq_true rfl, Nat.le_of_ble_eq_true rfl, Nat.zero_le _, Nat.zero_le _⟩ (c_X4_hold l D cy cz m u1 (A.clr A.st) (A.held A.st) A.go q1 q2 g4 (by rw [held_len hr.1.1 g3, q1.1.sum g4, (clr_other hr.1.1 g3 g4 (by omega)).2.2.1]; omega)) ⟨rfl, rfl, rfl, rfl, by decide, rfl, fun _ => rfl⟩ (Nat.le_of_ble_eq_true rfl) ?_
          intro u2 hp2
          show G x l (rmF 3 108) D 7 0 0 (wM cy cz m u2) [(6, .int (nI (A.fc + ((A.tl A.st).length + (A.tl A.go).length)))), (5, .int (nI (A.need A.st A.go))), (4, .int (nI (A.cnt A.go + A.cnt A.st))), (3, .int (nI A.st)), (2, .int (nI (pvL A.L A.S))), (1, .int (nI A.go)), (0, .ref (m 0))] [] 128
          obtain ⟨r1, r2, r3⟩ := hp2
          rw [(clr_other hr.1.1 g3 g4 (by omega)).2.2.2] at r2
          refine g_aload_n C dX4_shrink_128 6 rfl rfl ?_
          refine g_iload_n C dX4_shrink_129 4 rfl rfl ?_
          refine g_put C 0 (f := 5) (v := .int (nI (pvL A.L A.S))) (ty := .int) (Cn := RX4) (T := TX4) (N := 20) (ws' := (wM cy cz m (ps u2 0 0 (nI (pvL A.L A.S))))) dX4_shrink_130 rfl rfl iX4_shrink_X4 tyX4 tyX4_ok nmX4 (by decide) mX4_shrink_f45 rfl rfl (rfl) (rfl) (Nat.le_of_ble_eq_true rfl) (wM_s0 cy cz m u2 (nI (pvL A.L A.S))) ?_
          refine g_aload_n C dX4_shrink_133 6 rfl rfl ?_
          refine g_iload_n C dX4_shrink_134 3 rfl rfl ?_
          refine g_put C 0 (f := 6) (v := .int (nI A.st)) (ty := .int) (Cn := RX4) (T := TX4) (N := 20) (ws' := (wM cy cz m (ps (ps u2 0 0 (nI (pvL A.L A.S))) 0 1 (nI A.st)))) dX4_shrink_135 rfl rfl iX4_shrink_X4 tyX4 tyX4_ok nmX4 (by decide) mX4_shrink_f49 rfl rfl (rfl) (rfl) (Nat.le_of_ble_eq_true rfl) (wM_s1 cy cz m (ps u2 0 0 (nI (pvL A.L A.S))) (nI A.st)) ?_
          have hA : RM A.s0 ((ps (ps u2 0 0 (nI (pvL A.L A.S))) 0 1 (nI A.st))) := ⟨⟨(shrink_LI hr.1.1 hr.2.1 hn).1, r1.2⟩, shrink_WFa hr.1.1 hr.2.1 hn, rfl, rfl⟩
          refine g_aload_n C dX4_shrink_138 6 rfl rfl ?_
          refine g_callVV C [0, 1, 2, 3, 4, 5, 6, 7, 8, 9, 10] [] [0, 1, 2, 3, 4, 5, 6, 7, 8, 9, 10] 0 4 (b := m 0) rfl rfl (As := []) (rest := []) (wr := ([] : va_W)) (wf := fun M3 => (wM cy cz m M3)) dX4_shrink_139 gX4_shrink_X4_layHeld rfl dmX4_layHeld ⟨rfl, rfl, Nat.le_of_ble_eq_true rfl, Nat.le_of_ble_eq_true rfl, Nat.zero_le _, Nat.zero_le _⟩ (c_X4_layHeld l D cy cz m (ps (ps u2 0 0 (nI (pvL A.L A.S))) 0 1 (nI A.st)) A.s0 (A.held A.st ++ A.held A.go) (A.fc + ((A.tl A.st).length + (A.tl A.go).length)) A.st A.go hA r2 (shrink_LI hr.1.1 hr.2.1 hn) (shrink_room hr.1.1 hr.2.1 hn hc) (fun kv hk => Or.inl (shrink_key hr.2.1 hn kv hk))) ⟨rfl, rfl, rfl, rfl, by decide, rfl, fun _ => rfl⟩ (Nat.le_of_ble_eq_true rfl) ?_
          intro M3 hp3
          show G x l (rmF 3 108) D 7 0 0 (wM cy cz m M3) [(6, .int (nI (A.fc + ((A.tl A.st).length + (A.tl A.go).length)))), (5, .int (nI (A.need A.st A.go))), (4, .int (nI (A.cnt A.go + A.cnt A.st))), (3, .int (nI A.st)), (2, .int (nI (pvL A.L A.S))), (1, .int (nI A.go)), (0, .ref (m 0))] [] 142
          exact ret M3 _ _ dX4_shrink_142 (⟨by unfold AS.shrink; rw [if_pos hc]; exact hp3.1, ((congrFun hp3.2.1 2).trans (r3.2.2.2 2 (by decide))).trans (q3.2.2.2 2 (by decide)), ((((KW_s (Or.inr rfl)).tr q3.w).tr r3.w).tr ((KW_s (Or.inl (by decide))).tr (KW_s (Or.inl (by decide))))).tr hp3.2.h.w⟩)
        · skip
          have hn1 : A.need A.st A.go ≤ 1000 := by rw [need_eq]; omega
          have hc : ¬ A.can A.st A.go := fun w => c4 (nI_le w (by omega))
          exact ret M _ _ dX4_shrink_112 (⟨by unfold AS.shrink; rw [if_neg hc]; exact hr, rfl, KW.rf M⟩)
      · skip
        have h5 : ¬ 4 < A.cnt A.go + A.cnt A.st := fun w => c3 (nI_lt (a := 4) w (by omega))
        refine g_iconst C (v := 0) dX4_shrink_69 (by decide) ?_
        refine g_top (b := nI (A.need A.st A.go)) ((congrArg nI (by rw [need_eq]; omega) : nI 0 = _)) ?_
        refine g_goto C (tgt := 83) dX4_shrink_70 (by decide) ?_
        refine g_istore C (lv' := [(5, .int (nI (A.need A.st A.go))), (4, .int (nI (A.cnt A.go + A.cnt A.st))), (3, .int (nI A.st)), (2, .int (nI (pvL A.L A.S))), (1, .int (nI A.go)), (0, .ref (m 0))]) dX4_shrink_83 (by decide) rfl ?_
        refine g_aload_n C dX4_shrink_85 5 rfl rfl ?_
        refine g_callIV C [0, 1, 2, 3, 4, 5, 6, 7, 8, 9, 10] [] [0, 1, 2, 3, 4, 5, 6, 7, 8, 9, 10] 0 4 (b := m 0) rfl rfl (As := []) (rest := []) (wr := ([] : va_W)) (wf := fun _ => (wM cy cz m M)) dX4_shrink_86 gX4_shrink_X4_freeOnes rfl dmX4_freeOnes ⟨rfl, rfl, Nat.le_of_ble_eq_true rfl, Nat.le_of_ble_eq_true rfl, Nat.zero_le _, Nat.zero_le _⟩ (c_X4_freeOnes l D cy cz m M A hr.1) ⟨rfl, rfl, rfl, rfl, by decide, rfl, fun _ => rfl⟩ (Nat.le_of_ble_eq_true rfl) ?_
        rintro _ - rfl
        show G x l (rmF 3 108) D 7 0 0 (wM cy cz m M) [(5, .int (nI (A.need A.st A.go))), (4, .int (nI (A.cnt A.go + A.cnt A.st))), (3, .int (nI A.st)), (2, .int (nI (pvL A.L A.S))), (1, .int (nI A.go)), (0, .ref (m 0))] [.int (nI A.fc)] 89
        refine g_aload_n C dX4_shrink_89 5 rfl rfl ?_
        refine g_iload_n C dX4_shrink_90 4 rfl rfl ?_
        refine g_callIV C [0, 1, 2, 3, 4, 5, 6, 7, 8, 9, 10] [] [0, 1, 2, 3, 4, 5, 6, 7, 8, 9, 10] 0 4 (b := m 0) rfl rfl (As := [.int (nI A.go)]) (rest := [.int (nI A.fc)]) (wr := ([] : va_W)) (wf := fun _ => (wM cy cz m M)) dX4_shrink_91 gX4_shrink_X4_pagesIn rfl dmX4_pagesIn ⟨rfl, rfl, Nat.le_of_ble_eq_true rfl, Nat.le_of_ble_eq_true rfl, Nat.zero_le _, Nat.zero_le _⟩ (c_X4_pagesIn l D cy cz m M A A.go hr.1 g4) ⟨rfl, rfl, rfl, rfl, by decide, rfl, fun _ => rfl⟩ (Nat.le_of_ble_eq_true rfl) ?_
        rintro _ - rfl
        show G x l (rmF 3 108) D 7 0 0 (wM cy cz m M) [(5, .int (nI (A.need A.st A.go))), (4, .int (nI (A.cnt A.go + A.cnt A.st))), (3, .int (nI A.st)), (2, .int (nI (pvL A.L A.S))), (1, .int (nI A.go)), (0, .ref (m 0))] [.int (nI ((A.tl A.go).length + 1)), .int (nI A.fc)] 94
        refine g_iadd C dX4_shrink_94 ?_
        refine g_top (b := nI (A.fc + ((A.tl A.go).length + 1))) (nI_add _ _) ?_
        refine g_aload_n C dX4_shrink_95 5 rfl rfl ?_
        refine g_iload_n C dX4_shrink_96 2 rfl rfl ?_
        refine g_callIV C [0, 1, 2, 3, 4, 5, 6, 7, 8, 9, 10] [] [0, 1, 2, 3, 4, 5, 6, 7, 8, 9, 10] 0 4 (b := m 0) rfl rfl (As := [.int (nI A.st)]) (rest := [.int (nI (A.fc + ((A.tl A.go).length + 1)))]) (wr := ([] : va_W)) (wf := fun _ => (wM cy cz m M)) dX4_shrink_97 gX4_shrink_X4_pagesIn rfl dmX4_pagesIn ⟨rfl, rfl, Nat.le_of_ble_eq_true rfl, Nat.le_of_ble_eq_true rfl, Nat.zero_le _, Nat.zero_le _⟩ (c_X4_pagesIn l D cy cz m M A A.st hr.1 g3) ⟨rfl, rfl, rfl, rfl, by decide, rfl, fun _ => rfl⟩ (Nat.le_of_ble_eq_true rfl) ?_
        rintro _ - rfl
        show G x l (rmF 3 108) D 7 0 0 (wM cy cz m M) [(5, .int (nI (A.need A.st A.go))), (4, .int (nI (A.cnt A.go + A.cnt A.st))), (3, .int (nI A.st)), (2, .int (nI (pvL A.L A.S))), (1, .int (nI A.go)), (0, .ref (m 0))] [.int (nI ((A.tl A.st).length + 1)), .int (nI (A.fc + ((A.tl A.go).length + 1)))] 100
        refine g_iadd C dX4_shrink_100 ?_
        refine g_top (b := nI (A.fc + ((A.tl A.go).length + 1) + ((A.tl A.st).length + 1))) (nI_add _ _) ?_
        refine g_iconst C (v := 2) dX4_shrink_101 (by decide) ?_
        refine g_isub C dX4_shrink_102 ?_
        refine g_top (b := nI (A.fc + ((A.tl A.st).length + (A.tl A.go).length))) ((pk_sub (b := 2) (by omega)).trans (congrArg nI (by omega))) ?_
        refine g_istore C (lv' := [(6, .int (nI (A.fc + ((A.tl A.st).length + (A.tl A.go).length)))), (5, .int (nI (A.need A.st A.go))), (4, .int (nI (A.cnt A.go + A.cnt A.st))), (3, .int (nI A.st)), (2, .int (nI (pvL A.L A.S))), (1, .int (nI A.go)), (0, .ref (m 0))]) dX4_shrink_103 (by decide) rfl ?_
        refine g_iload C dX4_shrink_105 0 rfl ?_
        refine g_iload C dX4_shrink_107 1 rfl ?_
        refine g_icmp_ge C (tgt := 113) dX4_shrink_109 (by decide) (fun c4 => ?_) (fun c4 => ?_)
        · skip
          have hn1 : A.need A.st A.go ≤ 1000 := by rw [need_eq]; omega
          have hc : A.can A.st A.go := (nI_leI (by omega) (by omega)).mp c4
          refine g_aload_n C dX4_shrink_113 6 rfl rfl ?_
          refine g_iconst C (v := 0) dX4_shrink_114 (by decide) ?_
          refine g_put C 0 (f := 19) (v := .int 0) (ty := .int) (Cn := RX4) (T := TX4) (N := 20) (ws' := (wM cy cz m (ps M 0 9 0))) dX4_shrink_115 rfl rfl iX4_shrink_X4 tyX4 tyX4_ok nmX4 (by decide) mX4_shrink_f67 rfl rfl (rfl) (rfl) (Nat.le_of_ble_eq_true rfl) (wM_s9 cy cz m M 0) ?_
          refine g_aload_n C dX4_shrink_118 6 rfl rfl ?_
          refine g_iload_n C dX4_shrink_119 3 rfl rfl ?_
          refine g_callVV C [0, 1, 2, 3, 4, 5, 6, 7, 8, 9, 10] [] [0, 1, 2, 3, 4, 5, 6, 7, 8, 9, 10] 0 4 (b := m 0) rfl rfl (As := [.int (nI A.st)]) (rest := []) (wr := ([] : va_W)) (wf := fun u1 => (wM cy cz m u1)) dX4_shrink_120 gX4_shrink_X4_hold rfl dmX4_hold ⟨rfl, rfl, Nat.le_of_ble_eq_true rfl, Nat.le_of_ble_eq_true rfl, Nat.zero_le _, Nat.zero_le _⟩ (c_X4_hold l D cy cz m (ps M 0 9 0) A ([]) A.st hr.1 RH_nil g3 (by rw [hr.1.1.sum g3]; show 0 + _ ≤ 512; omega)) ⟨rfl, rfl, rfl, rfl, by decide, rfl, fun _ => rfl⟩ (Nat.le_of_ble_eq_true rfl) ?_
          intro u1 hp1
          show G x l (rmF 3 108) D 7 0 0 (wM cy cz m u1) [(6, .int (nI (A.fc + ((A.tl A.st).length + (A.tl A.go).length)))), (5, .int (nI (A.need A.st A.go))), (4, .int (nI (A.cnt A.go + A.cnt A.st))), (3, .int (nI A.st)), (2, .int (nI (pvL A.L A.S))), (1, .int (nI A.go)), (0, .ref (m 0))] [] 123
          obtain ⟨q1, q2, q3⟩ := hp1
          have q2 : RH u1 (A.held A.st) := q2
          refine g_aload_n C dX4_shrink_123 6 rfl rfl ?_
          refine g_iload_n C dX4_shrink_124 5 rfl rfl ?_
          refine g_callVV C [0, 1, 2, 3, 4, 5, 6, 7, 8, 9, 10] [] [0, 1, 2, 3, 4, 5, 6, 7, 8, 9, 10] 0 4 (b := m 0) rfl rfl (As := [.int (nI A.go)]) (rest := []) (wr := ([] : va_W)) (wf := fun u2 => (wM cy cz m u2)) dX4_shrink_125 gX4_shrink_X4_hold rfl dmX4_hold ⟨rfl, rfl, Nat.le_of_ble_eq_true rfl, Nat.le_of_ble_eq_true rfl, Nat.zero_le _, Nat.zero_le _⟩ (c_X4_hold l D cy cz m u1 (A.clr A.st) (A.held A.st) A.go q1 q2 g4 (by rw [held_len hr.1.1 g3, q1.1.sum g4, (clr_other hr.1.1 g3 g4 (by omega)).2.2.1]; omega)) ⟨rfl, rfl, rfl, rfl, by decide, rfl, fun _ => rfl⟩ (Nat.le_of_ble_eq_true rfl) ?_
          intro u2 hp2
          show G x l (rmF 3 108) D 7 0 0 (wM cy cz m u2) [(6, .int (nI (A.fc + ((A.tl A.st).length + (A.tl A.go).length)))), (5, .int (nI (A.need A.st A.go))), (4, .int (nI (A.cnt A.go + A.cnt A.st))), (3, .int (nI A.st)), (2, .int (nI (pvL A.L A.S))), (1, .int (nI A.go)), (0, .ref (m 0))] [] 128
          obtain ⟨r1, r2, r3⟩ := hp2
          rw [(clr_other hr.1.1 g3 g4 (by omega)).2.2.2] at r2
          refine g_aload_n C dX4_shrink_128 6 rfl rfl ?_
          refine g_iload_n C dX4_shrink_129 4 rfl rfl ?_
          refine g_put C 0 (f := 5) (v := .int (nI (pvL A.L A.S))) (ty := .int) (Cn := RX4) (T := TX4) (N := 20) (ws' := (wM cy cz m (ps u2 0 0 (nI (pvL A.L A.S))))) dX4_shrink_130 rfl rfl iX4_shrink_X4 tyX4 tyX4_ok nmX4 (by decide) mX4_shrink_f45 rfl rfl (rfl) (rfl) (Nat.le_of_ble_eq_true rfl) (wM_s0 cy cz m u2 (nI (pvL A.L A.S))) ?_
          refine g_aload_n C dX4_shrink_133 6 rfl rfl ?_
          refine g_iload_n C dX4_shrink_134 3 rfl rfl ?_
          refine g_put C 0 (f := 6) (v := .int (nI A.st)) (ty := .int) (Cn := RX4) (T := TX4) (N := 20) (ws' := (wM cy cz m (ps (ps u2 0 0 (nI (pvL A.L A.S))) 0 1 (nI A.st)))) dX4_shrink_135 rfl rfl iX4_shrink_X4 tyX4 tyX4_ok nmX4 (by decide) mX4_shrink_f49 rfl rfl (rfl) (rfl) (Nat.le_of_ble_eq_true rfl) (wM_s1 cy cz m (ps u2 0 0 (nI (pvL A.L A.S))) (nI A.st)) ?_
          have hA : RM A.s0 ((ps (ps u2 0 0 (nI (pvL A.L A.S))) 0 1 (nI A.st))) := ⟨⟨(shrink_LI hr.1.1 hr.2.1 hn).1, r1.2⟩, shrink_WFa hr.1.1 hr.2.1 hn, rfl, rfl⟩
          refine g_aload_n C dX4_shrink_138 6 rfl rfl ?_
          refine g_callVV C [0, 1, 2, 3, 4, 5, 6, 7, 8, 9, 10] [] [0, 1, 2, 3, 4, 5, 6, 7, 8, 9, 10] 0 4 (b := m 0) rfl rfl (As := []) (rest := []) (wr := ([] : va_W)) (wf := fun M3 => (wM cy cz m M3)) dX4_shrink_139 gX4_shrink_X4_layHeld rfl dmX4_layHeld ⟨rfl, rfl, Nat.le_of_ble_eq_true rfl, Nat.le_of_ble_eq_true rfl, Nat.zero_le _, Nat.zero_le _⟩ (c_X4_layHeld l D cy cz m (ps (ps u2 0 0 (nI (pvL A.L A.S))) 0 1 (nI A.st)) A.s0 (A.held A.st ++ A.held A.go) (A.fc + ((A.tl A.st).length + (A.tl A.go).length)) A.st A.go hA r2 (shrink_LI hr.1.1 hr.2.1 hn) (shrink_room hr.1.1 hr.2.1 hn hc) (fun kv hk => Or.inl (shrink_key hr.2.1 hn kv hk))) ⟨rfl, rfl, rfl, rfl, by decide, rfl, fun _ => rfl⟩ (Nat.le_of_ble_eq_true rfl) ?_
          intro M3 hp3
          show G x l (rmF 3 108) D 7 0 0 (wM cy cz m M3) [(6, .int (nI (A.fc + ((A.tl A.st).length + (A.tl A.go).length)))), (5, .int (nI (A.need A.st A.go))), (4, .int (nI (A.cnt A.go + A.cnt A.st))), (3, .int (nI A.st)), (2, .int (nI (pvL A.L A.S))), (1, .int (nI A.go)), (0, .ref (m 0))] [] 142
          exact ret M3 _ _ dX4_shrink_142 (⟨by unfold AS.shrink; rw [if_pos hc]; exact hp3.1, ((congrFun hp3.2.1 2).trans (r3.2.2.2 2 (by decide))).trans (q3.2.2.2 2 (by decide)), ((((KW_s (Or.inr rfl)).tr q3.w).tr r3.w).tr ((KW_s (Or.inl (by decide))).tr (KW_s (Or.inl (by decide))))).tr hp3.2.h.w⟩)
        · skip
          have hn1 : A.need A.st A.go ≤ 1000 := by rw [need_eq]; omega
          have hc : ¬ A.can A.st A.go := fun w => c4 (nI_le w (by omega))
          exact ret M _ _ dX4_shrink_112 (⟨by unfold AS.shrink; rw [if_neg hc]; exact hr, rfl, KW.rf M⟩)

theorem mX4_takeOut_f7 : Cond.fieldLink RX4 7 (TX4 0).1 (TX4 0).2.1 (TX4 0).2.2.1 ∈ wsX4_takeOut := List.mem_of_getElem? (i := 1) rfl
theorem iX4_takeOut_X4 : ∀ w ∈ wsX40, w ∈ wsX4_takeOut := by decide +kernel
theorem mX4_takeOut_f16 : Cond.fieldLink RX4 16 (TX4 2).1 (TX4 2).2.1 (TX4 2).2.2.1 ∈ wsX4_takeOut := List.mem_of_getElem? (i := 2) rfl
theorem mX4_takeOut_f13 : Cond.fieldLink RX4 13 (TX4 1).1 (TX4 1).2.1 (TX4 1).2.2.1 ∈ wsX4_takeOut := List.mem_of_getElem? (i := 3) rfl
theorem mX4_takeOut_f22 : Cond.fieldLink RX4 22 (TX4 4).1 (TX4 4).2.1 (TX4 4).2.2.1 ∈ wsX4_takeOut := List.mem_of_getElem? (i := 4) rfl
theorem mX4_takeOut_k44 : Cond.constant RX4 44 (-2000000005) ∈ wsX4_takeOut := List.mem_of_getElem? (i := 5) rfl
theorem mX4_takeOut_f19 : Cond.fieldLink RX4 19 (TX4 3).1 (TX4 3).2.1 (TX4 3).2.2.1 ∈ wsX4_takeOut := List.mem_of_getElem? (i := 6) rfl
set_option maxHeartbeats 1600000 in
set_option maxRecDepth 20000 in
theorem c_X4_takeOut (l : Launch) (D : va_G) (cy cz : ClassId) (m : Nat → Nat) (M : Mem) (A : AS) (b : Nat) (c : Nat) (hr : RM A M) (hb : b < 64) (hl : A.live b c) (hk : A.ad (A.ks c) = b) (hc : c < 512) : MV l yX4_takeOut wsX4_takeOut (rmF 2 72) D (tyL cy cz) [.ref (m 0), .int (nI c)] (wM cy cz m M) (fun (M1 : Mem) => RD (A.del b c) M1 ∧ KA M M1) (fun M1 => (wM cy cz m M1)) := by
  refine g_entV (cc := cX4_takeOut) (maxL := 6) (own := RX4) (by decide) rfl rfl (Nat.le_of_ble_eq_true rfl) (fun x C ret => ?_)
  show G x l (rmF 2 72) D 6 0 0 (wM cy cz m M) [(0, .ref (m 0)), (1, .int (nI c))] [] 0
  have hq := hr.1.la hb
  have hz := hr.1.sz4 hq
  have h1 := hr.1.1.la1 hb hl
  refine g_aload_n C dX4_takeOut_0 0 rfl rfl ?_
  refine g_aload_n C dX4_takeOut_1 0 rfl rfl ?_
  refine g_get C 0 (f := 0) (v := .ref (m 1)) (Cn := RX4) (T := TX4) (N := 20) dX4_takeOut_2 rfl rfl iX4_takeOut_X4 (by decide) mX4_takeOut_f7 rfl ?_
  refine g_iload_n C dX4_takeOut_5 1 rfl rfl ?_
  refine g_iald C 1 0 (f := M 1) (N := 512) c dX4_takeOut_6 rfl rfl (by decide) (rfl) (hc) ?_
  refine g_top (b := A.ks c) (hr.keyC hb hl) ?_
  refine g_callIV C [0, 1, 2, 3, 4, 5, 6, 7, 8, 9, 10] [] [0, 1, 2, 3, 4, 5, 6, 7, 8, 9, 10] 0 4 (b := m 0) rfl rfl (As := [.int (A.ks c)]) (rest := []) (wr := ([] : va_W)) (wf := fun _ => (wM cy cz m M)) dX4_takeOut_7 gX4_takeOut_X4_addressOf rfl dmX4_addressOf ⟨rfl, rfl, Nat.le_of_ble_eq_true rfl, Nat.le_of_ble_eq_true rfl, Nat.zero_le _, Nat.zero_le _⟩ (c_X4_addressOf l D cy cz m M A.L A.S (A.ks c) hr.2.2.1 hr.2.2.2 hr.2.1.1 hr.S64) ⟨rfl, rfl, rfl, rfl, by decide, rfl, fun _ => rfl⟩ (Nat.le_of_ble_eq_true rfl) ?_
  rintro _ - rfl
  show G x l (rmF 2 72) D 6 0 0 (wM cy cz m M) [(0, .ref (m 0)), (1, .int (nI c))] [.int (nI (adr A.L A.S (A.ks c)))] 10
  refine g_top (b := nI b) (congrArg nI hk) ?_
  refine g_istore_n C (lv' := [(2, .int (nI b)), (0, .ref (m 0)), (1, .int (nI c))]) dX4_takeOut_10 rfl (by decide) rfl ?_
  refine g_aload_n C dX4_takeOut_11 1 rfl rfl ?_
  refine g_iload_n C dX4_takeOut_12 0 rfl rfl ?_
  refine g_callIV C [0, 1, 2, 3, 4, 5, 6, 7, 8, 9, 10] [] [0, 1, 2, 3, 4, 5, 6, 7, 8, 9, 10] 0 4 (b := m 0) rfl rfl (As := [.int (nI b)]) (rest := []) (wr := ([] : va_W)) (wf := fun _ => (wM cy cz m M)) dX4_takeOut_13 gX4_takeOut_X4_lastOf rfl dmX4_lastOf ⟨rfl, rfl, Nat.le_of_ble_eq_true rfl, Nat.le_of_ble_eq_true rfl, Nat.zero_le _, Nat.zero_le _⟩ (c_X4_lastOf l D cy cz m M b (A.tl b) (hr.1.chain hb)) ⟨rfl, rfl, rfl, rfl, by decide, rfl, fun _ => rfl⟩ (Nat.le_of_ble_eq_true rfl) ?_
  rintro _ - rfl
  show G x l (rmF 2 72) D 6 0 0 (wM cy cz m M) [(2, .int (nI b)), (0, .ref (m 0)), (1, .int (nI c))] [.int (nI (lst b (A.tl b)))] 16
  refine g_top (b := nI (A.la b)) (rfl) ?_
  refine g_istore_n C (lv' := [(3, .int (nI (A.la b))), (2, .int (nI b)), (0, .ref (m 0)), (1, .int (nI c))]) dX4_takeOut_16 rfl (by decide) rfl ?_
  refine g_iconst C (v := 4) dX4_takeOut_17 (by decide) ?_
  refine g_iload_n C dX4_takeOut_18 0 rfl rfl ?_
  refine g_imul C dX4_takeOut_19 ?_
  refine g_top (b := nI (A.la b * 4)) (mul4 _) ?_
  refine g_aload_n C dX4_takeOut_20 2 rfl rfl ?_
  refine g_get C 0 (f := 2) (v := .ref (m 3)) (Cn := RX4) (T := TX4) (N := 20) dX4_takeOut_21 rfl rfl iX4_takeOut_X4 (by decide) mX4_takeOut_f16 rfl ?_
  refine g_iload_n C dX4_takeOut_24 0 rfl rfl ?_
  refine g_iald C 3 0 (f := M 3) (N := 128) (A.la b) dX4_takeOut_25 rfl rfl (by decide) (rfl) (hq) ?_
  refine g_top (b := nI (A.sz (A.la b))) (hr.1.used hq) ?_
  refine g_iadd C dX4_takeOut_26 ?_
  refine g_top (b := nI (A.la b * 4 + A.sz (A.la b))) (nI_add _ _) ?_
  refine g_iconst C (v := 1) dX4_takeOut_27 (by decide) ?_
  refine g_isub C dX4_takeOut_28 ?_
  refine g_top (b := nI (A.la b * 4 + (A.sz (A.la b) - 1))) ((pk_sub (a := A.la b * 4 + A.sz (A.la b)) (b := 1) (by omega)).trans (congrArg nI (by omega))) ?_
  refine g_istore C (lv' := [(4, .int (nI (A.la b * 4 + (A.sz (A.la b) - 1)))), (3, .int (nI (A.la b))), (2, .int (nI b)), (0, .ref (m 0)), (1, .int (nI c))]) dX4_takeOut_29 (by decide) rfl ?_
  refine g_aload_n C dX4_takeOut_31 3 rfl rfl ?_
  refine g_get C 0 (f := 0) (v := .ref (m 1)) (Cn := RX4) (T := TX4) (N := 20) dX4_takeOut_32 rfl rfl iX4_takeOut_X4 (by decide) mX4_takeOut_f7 rfl ?_
  refine g_iload_n C dX4_takeOut_35 4 rfl rfl ?_
  refine g_aload_n C dX4_takeOut_36 3 rfl rfl ?_
  refine g_get C 0 (f := 0) (v := .ref (m 1)) (Cn := RX4) (T := TX4) (N := 20) dX4_takeOut_37 rfl rfl iX4_takeOut_X4 (by decide) mX4_takeOut_f7 rfl ?_
  refine g_iload C dX4_takeOut_40 0 rfl ?_
  refine g_iald C 1 0 (f := M 1) (N := 512) (A.la b * 4 + (A.sz (A.la b) - 1)) dX4_takeOut_42 rfl rfl (by decide) (rfl) (by omega) ?_
  refine g_iast C 1 0 (f := M 1) (N := 512) (ws' := (wM cy cz m (ps M 1 c (M 1 (A.la b * 4 + (A.sz (A.la b) - 1)))))) c dX4_takeOut_43 rfl rfl (by decide) (rfl) (hc) (wM_a1 cy cz m M c (M 1 (A.la b * 4 + (A.sz (A.la b) - 1)))) ?_
  refine g_aload_n C dX4_takeOut_44 3 rfl rfl ?_
  refine g_get C 0 (f := 1) (v := .ref (m 2)) (Cn := RX4) (T := TX4) (N := 20) dX4_takeOut_45 rfl rfl iX4_takeOut_X4 (by decide) mX4_takeOut_f13 rfl ?_
  refine g_iload_n C dX4_takeOut_48 4 rfl rfl ?_
  refine g_aload_n C dX4_takeOut_49 3 rfl rfl ?_
  refine g_get C 0 (f := 1) (v := .ref (m 2)) (Cn := RX4) (T := TX4) (N := 20) dX4_takeOut_50 rfl rfl iX4_takeOut_X4 (by decide) mX4_takeOut_f13 rfl ?_
  refine g_iload C dX4_takeOut_53 0 rfl ?_
  refine g_iald C 2 0 (f := M 2) (N := 512) (A.la b * 4 + (A.sz (A.la b) - 1)) dX4_takeOut_55 rfl rfl (by decide) (rfl) (by omega) ?_
  refine g_iast C 2 0 (f := (ps M 1 c (M 1 (A.la b * 4 + (A.sz (A.la b) - 1)))) 2) (N := 512) (ws' := (wM cy cz m (ps (ps M 1 c (M 1 (A.la b * 4 + (A.sz (A.la b) - 1)))) 2 c (M 2 (A.la b * 4 + (A.sz (A.la b) - 1)))))) c dX4_takeOut_56 rfl rfl (by decide) (rfl) (hc) (wM_a2 cy cz m (ps M 1 c (M 1 (A.la b * 4 + (A.sz (A.la b) - 1)))) c (M 2 (A.la b * 4 + (A.sz (A.la b) - 1)))) ?_
  refine g_aload_n C dX4_takeOut_57 3 rfl rfl ?_
  refine g_get C 0 (f := 2) (v := .ref (m 3)) (Cn := RX4) (T := TX4) (N := 20) dX4_takeOut_58 rfl rfl iX4_takeOut_X4 (by decide) mX4_takeOut_f16 rfl ?_
  refine g_iload_n C dX4_takeOut_61 1 rfl rfl ?_
  refine g_dup2 C dX4_takeOut_62 rfl rfl ?_
  refine g_iald C 3 0 (f := M 3) (N := 128) (A.la b) dX4_takeOut_63 rfl rfl (by decide) (rfl) (hq) ?_
  refine g_top (b := nI (A.sz (A.la b))) (hr.1.used hq) ?_
  refine g_iconst C (v := 1) dX4_takeOut_64 (by decide) ?_
  refine g_isub C dX4_takeOut_65 ?_
  refine g_top (b := nI (A.sz (A.la b) - 1)) (pk_sub (b := 1) h1) ?_
  refine g_iast C 3 0 (f := (ps (ps M 1 c (M 1 (A.la b * 4 + (A.sz (A.la b) - 1)))) 2 c (M 2 (A.la b * 4 + (A.sz (A.la b) - 1)))) 3) (N := 128) (ws' := (wM cy cz m (ps (ps (ps M 1 c (M 1 (A.la b * 4 + (A.sz (A.la b) - 1)))) 2 c (M 2 (A.la b * 4 + (A.sz (A.la b) - 1)))) 3 (A.la b) (nI (A.sz (A.la b) - 1))))) (A.la b) dX4_takeOut_66 rfl rfl (by decide) (rfl) (hq) (wM_a3 cy cz m (ps (ps M 1 c (M 1 (A.la b * 4 + (A.sz (A.la b) - 1)))) 2 c (M 2 (A.la b * 4 + (A.sz (A.la b) - 1)))) (A.la b) (nI (A.sz (A.la b) - 1))) ?_
  refine g_aload_n C dX4_takeOut_67 3 rfl rfl ?_
  refine g_get C 0 (f := 2) (v := .ref (m 3)) (Cn := RX4) (T := TX4) (N := 20) dX4_takeOut_68 rfl rfl iX4_takeOut_X4 (by decide) mX4_takeOut_f16 rfl ?_
  refine g_iload_n C dX4_takeOut_71 1 rfl rfl ?_
  refine g_iald C 3 0 (f := upd (M 3) (A.la b) (nI (A.sz (A.la b) - 1))) (N := 128) (A.la b) dX4_takeOut_72 rfl rfl (by decide) (rfl) (hq) ?_
  refine g_top (b := nI (A.sz (A.la b) - 1)) (pk_us) ?_
  refine g_if_ne C (tgt := 141) dX4_takeOut_73 (by decide) (fun c6 => ?_) (fun c6 => ?_)
  · skip
    have hs : ¬ (A.sz (A.la b) - 1 = 0 ∧ 64 ≤ A.la b) := fun w => c6 (by rw [w.1]; rfl)
    exact ret (ps (ps (ps M 1 c (M 1 (A.la b * 4 + (A.sz (A.la b) - 1)))) 2 c (M 2 (A.la b * 4 + (A.sz (A.la b) - 1)))) 3 (A.la b) (nI (A.sz (A.la b) - 1))) _ _ dX4_takeOut_141 (⟨RD_del1 hr.1 hb h1 hs, rfl, rfl, rfl, rfl, rfl, rfl⟩)
  · skip
    refine g_iload_n C dX4_takeOut_76 1 rfl rfl ?_
    refine g_bipush C (v := 64) dX4_takeOut_77 (by decide) ?_
    refine g_icmp_lt C (tgt := 141) dX4_takeOut_79 (by decide) (fun c7 => ?_) (fun c7 => ?_)
    · skip
      have hs : ¬ (A.sz (A.la b) - 1 = 0 ∧ 64 ≤ A.la b) := fun w => absurd ((nI_ltI (b := 64) (by omega) (by decide)).mp c7) (by omega)
      exact ret (ps (ps (ps M 1 c (M 1 (A.la b * 4 + (A.sz (A.la b) - 1)))) 2 c (M 2 (A.la b * 4 + (A.sz (A.la b) - 1)))) 3 (A.la b) (nI (A.sz (A.la b) - 1))) _ _ dX4_takeOut_141 (⟨RD_del1 hr.1 hb h1 hs, rfl, rfl, rfl, rfl, rfl, rfl⟩)
    · skip
      have h64 : 64 ≤ A.la b := Nat.le_of_not_lt (fun w => c7 (nI_lt w (by decide)))
      have hs : A.sz (A.la b) - 1 = 0 ∧ 64 ≤ A.la b := ⟨(nI_eq (b := 0) (by omega) (by decide)).mp c6, h64⟩
      have hne : ¬ A.tl b = [] := fun e => by unfold AS.la at h64; rw [e] at h64; have h9 : 64 ≤ b := h64; omega
      have hsp : A.tl b = (A.tl b).dropLast ++ [A.la b] := lst_split b (A.tl b) hne
      have hch := hr.1.chain hb
      have hnd := hr.1.1.nodup hb
      unfold AS.ch at hch hnd
      rw [hsp] at hch hnd
      refine g_aload_n C dX4_takeOut_82 3 rfl rfl ?_
      refine g_get C 0 (f := 4) (v := .ref (m 5)) (Cn := RX4) (T := TX4) (N := 20) dX4_takeOut_83 rfl rfl iX4_takeOut_X4 (by decide) mX4_takeOut_f22 rfl ?_
      refine g_iload_n C dX4_takeOut_86 1 rfl rfl ?_
      refine g_iconst C (v := 1) dX4_takeOut_87 (by decide) ?_
      refine g_zast C 5 1 (f := (ps (ps (ps M 1 c (M 1 (A.la b * 4 + (A.sz (A.la b) - 1)))) 2 c (M 2 (A.la b * 4 + (A.sz (A.la b) - 1)))) 3 (A.la b) (nI (A.sz (A.la b) - 1))) 5) (N := 128) (ws' := (wM cy cz m (ps (ps (ps (ps M 1 c (M 1 (A.la b * 4 + (A.sz (A.la b) - 1)))) 2 c (M 2 (A.la b * 4 + (A.sz (A.la b) - 1)))) 3 (A.la b) (nI (A.sz (A.la b) - 1))) 5 (A.la b) 1))) (A.la b) dX4_takeOut_88 rfl rfl (by decide) (rfl) (hq) (by decide) (wM_a5 cy cz m (ps (ps (ps M 1 c (M 1 (A.la b * 4 + (A.sz (A.la b) - 1)))) 2 c (M 2 (A.la b * 4 + (A.sz (A.la b) - 1)))) 3 (A.la b) (nI (A.sz (A.la b) - 1))) (A.la b) 1) ?_
      obtain ⟨M2, hM2⟩ : ∃ zz : Mem, zz = (ps (ps (ps (ps M 1 c (M 1 (A.la b * 4 + (A.sz (A.la b) - 1)))) 2 c (M 2 (A.la b * 4 + (A.sz (A.la b) - 1)))) 3 (A.la b) (nI (A.sz (A.la b) - 1))) 5 (A.la b) 1) := ⟨_, rfl⟩
      rw [← hM2]
      show G x l (rmF 2 72) D 6 0 0 (wM cy cz m M2) [(4, .int (nI (A.la b * 4 + (A.sz (A.la b) - 1)))), (3, .int (nI (A.la b))), (2, .int (nI b)), (0, .ref (m 0)), (1, .int (nI c))] [] 89
      have e4 : M2 4 = M 4 := by rw [hM2]; rfl
      rw [← e4] at hch
      refine g_iload_n C dX4_takeOut_89 2 rfl rfl ?_
      refine g_istore C (lv' := [(5, .int (nI b)), (4, .int (nI (A.la b * 4 + (A.sz (A.la b) - 1)))), (3, .int (nI (A.la b))), (2, .int (nI b)), (0, .ref (m 0)), (1, .int (nI c))]) dX4_takeOut_90 (by decide) rfl ?_
      refine g_loop (σ := Nat × List Nat) (fun (a : Nat × List Nat) => match a with | (q, r) => (wM cy cz m M2)) (fun (a : Nat × List Nat) => match a with | (q, r) => [(5, .int (nI q)), (4, .int (nI (A.la b * 4 + (A.sz (A.la b) - 1)))), (3, .int (nI (A.la b))), (2, .int (nI b)), (0, .ref (m 0)), (1, .int (nI c))]) (fun (a : Nat × List Nat) => match a with | (q, r) => (isCh (M2 4) (q :: (r ++ [A.la b]))) ∧ (lst b (A.tl b).dropLast = lst q r) ∧ ((q :: (r ++ [A.la b])).Nodup)) (fun (a : Nat × List Nat) => match a with | (q, r) => r.length) ?_ (b, (A.tl b).dropLast) (⟨hch, rfl, hnd⟩)
      intro a hI ih
      obtain ⟨q, r⟩ := a
      obtain ⟨i1, i2, i3⟩ : (isCh (M2 4) (q :: (r ++ [A.la b]))) ∧ (lst b (A.tl b).dropLast = lst q r) ∧ ((q :: (r ++ [A.la b])).Nodup) := hI
      show G x l (rmF 2 72) D 6 0 0 (wM cy cz m M2) [(5, .int (nI q)), (4, .int (nI (A.la b * 4 + (A.sz (A.la b) - 1)))), (3, .int (nI (A.la b))), (2, .int (nI b)), (0, .ref (m 0)), (1, .int (nI c))] [] 92
      obtain ⟨hq5, hn5, i1⟩ := i1
      rcases r with _ | ⟨q2, r⟩
      · skip
        show G x l (rmF 2 72) D 6 0 0 (wM cy cz m M2) [(5, .int (nI q)), (4, .int (nI (A.la b * 4 + (A.sz (A.la b) - 1)))), (3, .int (nI (A.la b))), (2, .int (nI b)), (0, .ref (m 0)), (1, .int (nI c))] [] 92
        refine g_iload C dX4_takeOut_92 0 rfl ?_
        refine g_ldc C (v := vNONE) mX4_takeOut_k44 dX4_takeOut_94 ?_
        refine g_icmp_eq C (tgt := 141) dX4_takeOut_96 (by decide) (fun c8 => ?_) (fun c8 => ?_)
        · skip
          exact absurd c8 (NONE_nI (by omega))
        · skip
          refine g_aload_n C dX4_takeOut_99 4 rfl rfl ?_
          refine g_get C 0 (f := 3) (v := .ref (m 4)) (Cn := RX4) (T := TX4) (N := 20) dX4_takeOut_100 rfl rfl iX4_takeOut_X4 (by decide) mX4_takeOut_f19 rfl ?_
          refine g_iload C dX4_takeOut_103 0 rfl ?_
          refine g_aload_n C dX4_takeOut_105 4 rfl rfl ?_
          refine g_get C 0 (f := 3) (v := .ref (m 4)) (Cn := RX4) (T := TX4) (N := 20) dX4_takeOut_106 rfl rfl iX4_takeOut_X4 (by decide) mX4_takeOut_f19 rfl ?_
          refine g_iload C dX4_takeOut_109 0 rfl ?_
          refine g_iald C 4 0 (f := M2 4) (N := 128) q dX4_takeOut_111 rfl rfl (by decide) (rfl) (hq5) ?_
          refine g_top (b := nI (A.la b)) (hn5) ?_
          refine g_iload_n C dX4_takeOut_112 2 rfl rfl ?_
          refine g_icmp_ne C (tgt := 121) dX4_takeOut_113 (by decide) (fun c10 => ?_) (fun c10 => ?_)
          · skip
            exact absurd rfl (c10)
          · skip
            refine g_ldc C (v := vNONE) mX4_takeOut_k44 dX4_takeOut_116 ?_
            refine g_goto C (tgt := 128) dX4_takeOut_118 (by decide) ?_
            refine g_iast C 4 0 (f := M2 4) (N := 128) (ws' := (wM cy cz m (ps M2 4 q vNONE))) q dX4_takeOut_128 rfl rfl (by decide) (rfl) (hq5) (wM_a4 cy cz m M2 q vNONE) ?_
            refine g_aload_n C dX4_takeOut_129 4 rfl rfl ?_
            refine g_get C 0 (f := 3) (v := .ref (m 4)) (Cn := RX4) (T := TX4) (N := 20) dX4_takeOut_130 rfl rfl iX4_takeOut_X4 (by decide) mX4_takeOut_f19 rfl ?_
            refine g_iload C dX4_takeOut_133 0 rfl ?_
            refine g_iald C 4 0 (f := upd (M2 4) q vNONE) (N := 128) q dX4_takeOut_135 rfl rfl (by decide) (rfl) (hq5) ?_
            refine g_top (b := vNONE) (pk_us) ?_
            refine g_istore C (lv' := [(5, .int vNONE), (4, .int (nI (A.la b * 4 + (A.sz (A.la b) - 1)))), (3, .int (nI (A.la b))), (2, .int (nI b)), (0, .ref (m 0)), (1, .int (nI c))]) dX4_takeOut_136 (by decide) rfl ?_
            refine g_goto C (tgt := 92) dX4_takeOut_138 (by decide) ?_
            refine g_iload C dX4_takeOut_92 0 rfl ?_
            refine g_ldc C (v := vNONE) mX4_takeOut_k44 dX4_takeOut_94 ?_
            refine g_icmp_eq C (tgt := 141) dX4_takeOut_96 (by decide) (fun c9 => ?_) (fun c9 => ?_)
            · skip
              exact ret (ps M2 4 q vNONE) _ _ dX4_takeOut_141 (by rw [hM2, show q = lst b (A.tl b).dropLast from i2.symm]; exact ⟨RD_del2 hr.1 hb h1 hs, rfl, rfl, rfl, rfl, rfl, rfl⟩)
            · skip
              exact absurd rfl (c9)
      · skip
        have hq2 : q2 < 128 := i1.1
        have hne2 : ¬ q2 = A.la b := fun w => by rw [w] at i3; exact (List.nodup_cons.mp (List.nodup_cons.mp i3).2).1 (List.mem_append_right _ List.mem_cons_self)
        show G x l (rmF 2 72) D 6 0 0 (wM cy cz m M2) [(5, .int (nI q)), (4, .int (nI (A.la b * 4 + (A.sz (A.la b) - 1)))), (3, .int (nI (A.la b))), (2, .int (nI b)), (0, .ref (m 0)), (1, .int (nI c))] [] 92
        refine g_iload C dX4_takeOut_92 0 rfl ?_
        refine g_ldc C (v := vNONE) mX4_takeOut_k44 dX4_takeOut_94 ?_
        refine g_icmp_eq C (tgt := 141) dX4_takeOut_96 (by decide) (fun c8 => ?_) (fun c8 => ?_)
        · skip
          exact absurd c8 (NONE_nI (by omega))
        · skip
          refine g_aload_n C dX4_takeOut_99 4 rfl rfl ?_
          refine g_get C 0 (f := 3) (v := .ref (m 4)) (Cn := RX4) (T := TX4) (N := 20) dX4_takeOut_100 rfl rfl iX4_takeOut_X4 (by decide) mX4_takeOut_f19 rfl ?_
          refine g_iload C dX4_takeOut_103 0 rfl ?_
          refine g_aload_n C dX4_takeOut_105 4 rfl rfl ?_
          refine g_get C 0 (f := 3) (v := .ref (m 4)) (Cn := RX4) (T := TX4) (N := 20) dX4_takeOut_106 rfl rfl iX4_takeOut_X4 (by decide) mX4_takeOut_f19 rfl ?_
          refine g_iload C dX4_takeOut_109 0 rfl ?_
          refine g_iald C 4 0 (f := M2 4) (N := 128) q dX4_takeOut_111 rfl rfl (by decide) (rfl) (hq5) ?_
          refine g_top (b := nI q2) (hn5) ?_
          refine g_iload_n C dX4_takeOut_112 2 rfl rfl ?_
          refine g_icmp_ne C (tgt := 121) dX4_takeOut_113 (by decide) (fun c10 => ?_) (fun c10 => ?_)
          · skip
            refine g_aload_n C dX4_takeOut_121 4 rfl rfl ?_
            refine g_get C 0 (f := 3) (v := .ref (m 4)) (Cn := RX4) (T := TX4) (N := 20) dX4_takeOut_122 rfl rfl iX4_takeOut_X4 (by decide) mX4_takeOut_f19 rfl ?_
            refine g_iload C dX4_takeOut_125 0 rfl ?_
            refine g_iald C 4 0 (f := M2 4) (N := 128) q dX4_takeOut_127 rfl rfl (by decide) (rfl) (hq5) ?_
            refine g_iast C 4 0 (f := M2 4) (N := 128) (ws' := (wM cy cz m (ps M2 4 q (M2 4 q)))) q dX4_takeOut_128 rfl rfl (by decide) (rfl) (hq5) (wM_a4 cy cz m M2 q (M2 4 q)) ?_
            rw [ps_same]
            show G x l (rmF 2 72) D 6 0 0 (wM cy cz m M2) [(5, .int (nI q)), (4, .int (nI (A.la b * 4 + (A.sz (A.la b) - 1)))), (3, .int (nI (A.la b))), (2, .int (nI b)), (0, .ref (m 0)), (1, .int (nI c))] [] 129
            refine g_aload_n C dX4_takeOut_129 4 rfl rfl ?_
            refine g_get C 0 (f := 3) (v := .ref (m 4)) (Cn := RX4) (T := TX4) (N := 20) dX4_takeOut_130 rfl rfl iX4_takeOut_X4 (by decide) mX4_takeOut_f19 rfl ?_
            refine g_iload C dX4_takeOut_133 0 rfl ?_
            refine g_iald C 4 0 (f := M2 4) (N := 128) q dX4_takeOut_135 rfl rfl (by decide) (rfl) (hq5) ?_
            refine g_top (b := nI q2) (hn5) ?_
            refine g_istore C (lv' := [(5, .int (nI q2)), (4, .int (nI (A.la b * 4 + (A.sz (A.la b) - 1)))), (3, .int (nI (A.la b))), (2, .int (nI b)), (0, .ref (m 0)), (1, .int (nI c))]) dX4_takeOut_136 (by decide) rfl ?_
            refine g_goto C (tgt := 92) dX4_takeOut_138 (by decide) ?_
            exact ih (q2, r) ⟨i1, i2, (List.nodup_cons.mp i3).2⟩ (Nat.lt_succ_self _)
          · skip
            exact absurd c10 (fun w => hne2 ((nI_eq (by omega) (by omega)).mp w))
