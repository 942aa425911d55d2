/-! made by wip/whole/gen.py and m1.py -/
theorem mX2_setValue_f15 : Cond.fieldLink RX2 15 (TX2 1).1 (TX2 1).2.1 (TX2 1).2.2.1 ∈ wsX2_setValue := List.mem_of_getElem? (i := 1) rfl
theorem iX2_setValue_X2 : ∀ w ∈ wsX20, w ∈ wsX2_setValue := by decide +kernel
set_option maxHeartbeats 1600000 in
set_option maxRecDepth 20000 in
theorem c_X2_setValue (l : Launch) (D : va_G) (cy cz : ClassId) (g : Nat → Nat) (z0 : Nat) (P : Mem) (c : Nat) (v : Int32) (hc : c < 512) : MVd l yX2_setValue wsX2_setValue (rmF 0 0) D (tyL cy cz) [.ref (g 0), .int (nI c), .int v] (wG cy g z0 P) (wG cy g z0 (ps P 2 c v)) := by
  refine g_entV (cc := cX2_setValue) (maxL := 3) (own := RX2) (by decide) rfl rfl (Nat.le_of_ble_eq_true rfl) (fun x C ret => ?_)
  show G x l (rmF 0 0) D 3 0 0 (wG cy g z0 P) [(0, .ref (g 0)), (1, .int (nI c)), (2, .int v)] [] 0
  refine g_iload_n C dX2_setValue_0 1 rfl rfl ?_
  refine g_if_lt C (tgt := 20) dX2_setValue_1 (by decide) (fun c1 => ?_) (fun c1 => ?_)
  · skip
    exact absurd c1 (nI_pos (by omega))
  · skip
    refine g_iload_n C dX2_setValue_4 1 rfl rfl ?_
    refine g_aload_n C dX2_setValue_5 0 rfl rfl ?_
    refine g_get C 0 (f := 1) (v := .ref (g 2)) (Cn := RX2) (T := TX2) (N := 11) dX2_setValue_6 rfl rfl iX2_setValue_X2 (by decide) mX2_setValue_f15 rfl ?_
    refine g_alen C 2 0 (f := P 2) (N := 512) dX2_setValue_9 rfl rfl ?_
    refine g_icmp_ge C (tgt := 20) dX2_setValue_10 (by decide) (fun c2 => ?_) (fun c2 => ?_)
    · skip
      exact absurd c2 (nI_ge hc (by decide))
    · skip
      refine g_aload_n C dX2_setValue_13 0 rfl rfl ?_
      refine g_get C 0 (f := 1) (v := .ref (g 2)) (Cn := RX2) (T := TX2) (N := 11) dX2_setValue_14 rfl rfl iX2_setValue_X2 (by decide) mX2_setValue_f15 rfl ?_
      refine g_iload_n C dX2_setValue_17 1 rfl rfl ?_
      refine g_iload_n C dX2_setValue_18 2 rfl rfl ?_
      refine g_iast C 2 0 (f := P 2) (N := 512) (ws' := (wG cy g z0 (ps P 2 c v))) c dX2_setValue_19 rfl rfl (by decide) (rfl) (by omega) (wG_a2 cy g z0 P c v) ?_
      exact ret () _ _ dX2_setValue_20 trivial

theorem mX2_clearPage_inX3_isPage : Cond.initialized yX3_isPage.cls ∈ wsX2_clearPage := List.mem_of_getElem? (i := 7) rfl
theorem mX2_clearPage_stX3_isPage : Cond.static yX3_isPage ∈ wsX2_clearPage := List.mem_of_getElem? (i := 6) rfl
theorem mX2_clearPage_f18 : Cond.fieldLink RX2 18 (TX2 2).1 (TX2 2).2.1 (TX2 2).2.2.1 ∈ wsX2_clearPage := List.mem_of_getElem? (i := 1) rfl
theorem iX2_clearPage_X2 : ∀ w ∈ wsX20, w ∈ wsX2_clearPage := by decide +kernel
theorem mX2_clearPage_f21 : Cond.fieldLink RX2 21 (TX2 3).1 (TX2 3).2.1 (TX2 3).2.2.1 ∈ wsX2_clearPage := List.mem_of_getElem? (i := 2) rfl
theorem mX2_clearPage_k37 : Cond.constant RX2 37 (-2000000005) ∈ wsX2_clearPage := List.mem_of_getElem? (i := 3) rfl
theorem mX2_clearPage_f24 : Cond.fieldLink RX2 24 (TX2 4).1 (TX2 4).2.1 (TX2 4).2.2.1 ∈ wsX2_clearPage := List.mem_of_getElem? (i := 4) rfl
theorem mX2_clearPage_f27 : Cond.fieldLink RX2 27 (TX2 5).1 (TX2 5).2.1 (TX2 5).2.2.1 ∈ wsX2_clearPage := List.mem_of_getElem? (i := 5) rfl
set_option maxHeartbeats 1600000 in
set_option maxRecDepth 20000 in
theorem c_X2_clearPage (l : Launch) (D : va_G) (cy cz : ClassId) (g : Nat → Nat) (z0 : Nat) (P : Mem) (q : Nat) (hq : q < 128) : MVd l yX2_clearPage wsX2_clearPage (rmF 1 36) D (tyL cy cz) [.ref (g 0), .int (nI q)] (wG cy g z0 P) (wG cy g z0 (clrP P q)) := by
  refine g_entV (cc := cX2_clearPage) (maxL := 2) (own := RX2) (by decide) rfl rfl (Nat.le_of_ble_eq_true rfl) (fun x C ret => ?_)
  show G x l (rmF 1 36) D 2 0 0 (wG cy g z0 P) [(0, .ref (g 0)), (1, .int (nI q))] [] 0
  refine g_iload_n C dX2_clearPage_0 1 rfl rfl ?_
  refine g_callIN C [] [0, 1, 2, 3, 4, 5, 6, 7] [0, 1, 2, 3, 4, 5, 6, 7] (As := [.int (nI q)]) (rest := []) (wr := (wG cy g z0 P)) (wf := fun _ => (wG cy g z0 P)) dX2_clearPage_1 gX2_clearPage_X3_isPage_n61 rfl dmX3_isPage ⟨rfl, rfl, Nat.le_of_ble_eq_true rfl, Nat.le_of_ble_eq_true rfl, Nat.zero_le _, Nat.zero_le _⟩ rfl mX2_clearPage_inX3_isPage mX2_clearPage_stX3_isPage (c_X3_isPage l D cy cz (nI q)) ⟨rfl, rfl, rfl, rfl, by decide, rfl, fun _ => rfl⟩ (Nat.le_of_ble_eq_true rfl) ?_
  rintro _ - rfl
  show G x l (rmF 1 36) D 2 0 0 (wG cy g z0 P) [(0, .ref (g 0)), (1, .int (nI q))] [.int (inI 128 (nI q))] 4
  refine g_top (b := 1) (inI_nI (N := 128) hq (by decide)) ?_
  refine g_if_eq C (tgt := 38) dX2_clearPage_4 (by decide) (fun c1 => ?_) (fun c1 => ?_)
  · skip
    exact absurd c1 (by decide)
  · skip
    refine g_aload_n C dX2_clearPage_7 0 rfl rfl ?_
    refine g_get C 0 (f := 2) (v := .ref (g 3)) (Cn := RX2) (T := TX2) (N := 11) dX2_clearPage_8 rfl rfl iX2_clearPage_X2 (by decide) mX2_clearPage_f18 rfl ?_
    refine g_iload_n C dX2_clearPage_11 1 rfl rfl ?_
    refine g_iconst C (v := 0) dX2_clearPage_12 (by decide) ?_
    refine g_iast C 3 0 (f := P 3) (N := 128) (ws' := (wG cy g z0 (ps P 3 q 0))) q dX2_clearPage_13 rfl rfl (by decide) (rfl) (by omega) (wG_a3 cy g z0 P q 0) ?_
    refine g_aload_n C dX2_clearPage_14 0 rfl rfl ?_
    refine g_get C 0 (f := 3) (v := .ref (g 4)) (Cn := RX2) (T := TX2) (N := 11) dX2_clearPage_15 rfl rfl iX2_clearPage_X2 (by decide) mX2_clearPage_f21 rfl ?_
    refine g_iload_n C dX2_clearPage_18 1 rfl rfl ?_
    refine g_ldc C (v := vNONE) mX2_clearPage_k37 dX2_clearPage_19 ?_
    refine g_iast C 4 0 (f := (ps P 3 q 0) 4) (N := 128) (ws' := (wG cy g z0 (ps (ps P 3 q 0) 4 q vNONE))) q dX2_clearPage_21 rfl rfl (by decide) (rfl) (by omega) (wG_a4 cy g z0 (ps P 3 q 0) q vNONE) ?_
    refine g_aload_n C dX2_clearPage_22 0 rfl rfl ?_
    refine g_get C 0 (f := 4) (v := .ref (g 5)) (Cn := RX2) (T := TX2) (N := 11) dX2_clearPage_23 rfl rfl iX2_clearPage_X2 (by decide) mX2_clearPage_f24 rfl ?_
    refine g_iload_n C dX2_clearPage_26 1 rfl rfl ?_
    refine g_ldc C (v := vNONE) mX2_clearPage_k37 dX2_clearPage_27 ?_
    refine g_iast C 5 0 (f := (ps (ps P 3 q 0) 4 q vNONE) 5) (N := 128) (ws' := (wG cy g z0 (ps (ps (ps P 3 q 0) 4 q vNONE) 5 q vNONE))) q dX2_clearPage_29 rfl rfl (by decide) (rfl) (by omega) (wG_a5 cy g z0 (ps (ps P 3 q 0) 4 q vNONE) q vNONE) ?_
    refine g_aload_n C dX2_clearPage_30 0 rfl rfl ?_
    refine g_get C 0 (f := 5) (v := .ref (g 6)) (Cn := RX2) (T := TX2) (N := 11) dX2_clearPage_31 rfl rfl iX2_clearPage_X2 (by decide) mX2_clearPage_f27 rfl ?_
    refine g_iload_n C dX2_clearPage_34 1 rfl rfl ?_
    refine g_ldc C (v := vNONE) mX2_clearPage_k37 dX2_clearPage_35 ?_
    refine g_iast C 6 0 (f := (ps (ps (ps P 3 q 0) 4 q vNONE) 5 q vNONE) 6) (N := 128) (ws' := (wG cy g z0 (ps (ps (ps (ps P 3 q 0) 4 q vNONE) 5 q vNONE) 6 q vNONE))) q dX2_clearPage_37 rfl rfl (by decide) (rfl) (by omega) (wG_a6 cy g z0 (ps (ps (ps P 3 q 0) 4 q vNONE) 5 q vNONE) q vNONE) ?_
    exact ret () _ _ dX2_clearPage_38 trivial

theorem mX2_linkNewPage_inX3_isPage : Cond.initialized yX3_isPage.cls ∈ wsX2_linkNewPage := List.mem_of_getElem? (i := 12) rfl
theorem mX2_linkNewPage_stX3_isPage : Cond.static yX3_isPage ∈ wsX2_linkNewPage := List.mem_of_getElem? (i := 11) rfl
theorem mX2_linkNewPage_f21 : Cond.fieldLink RX2 21 (TX2 3).1 (TX2 3).2.1 (TX2 3).2.2.1 ∈ wsX2_linkNewPage := List.mem_of_getElem? (i := 1) rfl
theorem iX2_linkNewPage_X2 : ∀ w ∈ wsX20, w ∈ wsX2_linkNewPage := by decide +kernel
theorem mX2_linkNewPage_f24 : Cond.fieldLink RX2 24 (TX2 4).1 (TX2 4).2.1 (TX2 4).2.2.1 ∈ wsX2_linkNewPage := List.mem_of_getElem? (i := 2) rfl
theorem mX2_linkNewPage_f27 : Cond.fieldLink RX2 27 (TX2 5).1 (TX2 5).2.1 (TX2 5).2.2.1 ∈ wsX2_linkNewPage := List.mem_of_getElem? (i := 3) rfl
theorem mX2_linkNewPage_f30 : Cond.fieldLink RX2 30 (TX2 6).1 (TX2 6).2.1 (TX2 6).2.2.1 ∈ wsX2_linkNewPage := List.mem_of_getElem? (i := 4) rfl
set_option maxHeartbeats 1600000 in
set_option maxRecDepth 20000 in
theorem c_X2_linkNewPage (l : Launch) (D : va_G) (cy cz : ClassId) (g : Nat → Nat) (z0 : Nat) (P : Mem) (A : AS) (b : Nat) (q : Nat) (r : Nat) (hr : RC A P) (hb : b < 64) (hq : q < 128) (hf : A.lf = some r) : MId l yX2_linkNewPage wsX2_linkNewPage (rmF 1 36) D (tyL cy cz) [.ref (g 0), .int (nI b), .int (nI q)] (wG cy g z0 P) (nI r) (wG cy g z0 (lnkP P b q r)) := by
  refine g_entI (cc := cX2_linkNewPage) (maxL := 4) (own := RX2) (by decide) rfl rfl (Nat.le_of_ble_eq_true rfl) (fun x C ret => ?_)
  show G x l (rmF 1 36) D 4 0 0 (wG cy g z0 P) [(0, .ref (g 0)), (1, .int (nI b)), (2, .int (nI q))] [] 0
  obtain ⟨f1, f2, f3⟩ := WFc.lf hf
  refine g_aload_n C dX2_linkNewPage_0 0 rfl rfl ?_
  refine g_callIV C [0, 1, 2, 3, 4, 5, 6, 7] [] [0, 1, 2, 3, 4, 5, 6, 7] 0 2 (b := g 0) rfl rfl (As := []) (rest := []) (wr := ([] : va_W)) (wf := fun _ => (wG cy g z0 P)) dX2_linkNewPage_1 gX2_linkNewPage_X2_leastFreePage rfl dmX2_leastFreePage ⟨rfl, rfl, Nat.le_of_ble_eq_true rfl, Nat.le_of_ble_eq_true rfl, Nat.zero_le _, Nat.zero_le _⟩ (c_X2_leastFreePage l D cy cz g z0 P A hr) ⟨rfl, rfl, rfl, rfl, by decide, rfl, fun _ => rfl⟩ (Nat.le_of_ble_eq_true rfl) ?_
  rintro _ - rfl
  show G x l (rmF 1 36) D 4 0 0 (wG cy g z0 P) [(0, .ref (g 0)), (1, .int (nI b)), (2, .int (nI q))] [.int (ocI A.lf)] 4
  refine g_top (b := nI r) (by rw [hf]; rfl) ?_
  refine g_istore_n C (lv' := [(3, .int (nI r)), (0, .ref (g 0)), (1, .int (nI b)), (2, .int (nI q))]) dX2_linkNewPage_4 rfl (by decide) rfl ?_
  refine g_iload_n C dX2_linkNewPage_5 0 rfl rfl ?_
  refine g_callIN C [] [0, 1, 2, 3, 4, 5, 6, 7] [0, 1, 2, 3, 4, 5, 6, 7] (As := [.int (nI r)]) (rest := []) (wr := (wG cy g z0 P)) (wf := fun _ => (wG cy g z0 P)) dX2_linkNewPage_6 gX2_linkNewPage_X3_isPage_n61 rfl dmX3_isPage ⟨rfl, rfl, Nat.le_of_ble_eq_true rfl, Nat.le_of_ble_eq_true rfl, Nat.zero_le _, Nat.zero_le _⟩ rfl mX2_linkNewPage_inX3_isPage mX2_linkNewPage_stX3_isPage (c_X3_isPage l D cy cz (nI r)) ⟨rfl, rfl, rfl, rfl, by decide, rfl, fun _ => rfl⟩ (Nat.le_of_ble_eq_true rfl) ?_
  rintro _ - rfl
  show G x l (rmF 1 36) D 4 0 0 (wG cy g z0 P) [(3, .int (nI r)), (0, .ref (g 0)), (1, .int (nI b)), (2, .int (nI q))] [.int (inI 128 (nI r))] 9
  refine g_top (b := 1) (inI_nI (N := 128) f2 (by decide)) ?_
  refine g_if_eq C (tgt := 54) dX2_linkNewPage_9 (by decide) (fun c1 => ?_) (fun c1 => ?_)
  · skip
    exact absurd c1 (by decide)
  · skip
    refine g_iload_n C dX2_linkNewPage_12 3 rfl rfl ?_
    refine g_callIN C [] [0, 1, 2, 3, 4, 5, 6, 7] [0, 1, 2, 3, 4, 5, 6, 7] (As := [.int (nI q)]) (rest := []) (wr := (wG cy g z0 P)) (wf := fun _ => (wG cy g z0 P)) dX2_linkNewPage_13 gX2_linkNewPage_X3_isPage_n61 rfl dmX3_isPage ⟨rfl, rfl, Nat.le_of_ble_eq_true rfl, Nat.le_of_ble_eq_true rfl, Nat.zero_le _, Nat.zero_le _⟩ rfl mX2_linkNewPage_inX3_isPage mX2_linkNewPage_stX3_isPage (c_X3_isPage l D cy cz (nI q)) ⟨rfl, rfl, rfl, rfl, by decide, rfl, fun _ => rfl⟩ (Nat.le_of_ble_eq_true rfl) ?_
    rintro _ - rfl
    show G x l (rmF 1 36) D 4 0 0 (wG cy g z0 P) [(3, .int (nI r)), (0, .ref (g 0)), (1, .int (nI b)), (2, .int (nI q))] [.int (inI 128 (nI q))] 16
    refine g_top (b := 1) (inI_nI (N := 128) hq (by decide)) ?_
    refine g_if_eq C (tgt := 54) dX2_linkNewPage_16 (by decide) (fun c2 => ?_) (fun c2 => ?_)
    · skip
      exact absurd c2 (by decide)
    · skip
      refine g_iload_n C dX2_linkNewPage_19 2 rfl rfl ?_
      refine g_callIS C [] [0, 1, 2, 3, 4, 5, 6, 7] [0, 1, 2, 3, 4, 5, 6, 7] (As := [.int (nI b)]) (rest := []) (wr := (wG cy g z0 P)) (wf := fun _ => (wG cy g z0 P)) dX2_linkNewPage_20 gX2_linkNewPage_X2_isBucketPlace rfl dmX2_isBucketPlace ⟨rfl, rfl, Nat.le_of_ble_eq_true rfl, Nat.le_of_ble_eq_true rfl, Nat.zero_le _, Nat.zero_le _⟩ (c_X2_isBucketPlace l D cy cz (nI b)) ⟨rfl, rfl, rfl, rfl, by decide, rfl, fun _ => rfl⟩ (Nat.le_of_ble_eq_true rfl) ?_
      rintro _ - rfl
      show G x l (rmF 1 36) D 4 0 0 (wG cy g z0 P) [(3, .int (nI r)), (0, .ref (g 0)), (1, .int (nI b)), (2, .int (nI q))] [.int (inI 64 (nI b))] 23
      refine g_top (b := 1) (inI_nI (N := 64) hb (by decide)) ?_
      refine g_if_eq C (tgt := 54) dX2_linkNewPage_23 (by decide) (fun c3 => ?_) (fun c3 => ?_)
      · skip
        exact absurd c3 (by decide)
      · skip
        refine g_aload_n C dX2_linkNewPage_26 1 rfl rfl ?_
        refine g_get C 0 (f := 3) (v := .ref (g 4)) (Cn := RX2) (T := TX2) (N := 11) dX2_linkNewPage_27 rfl rfl iX2_linkNewPage_X2 (by decide) mX2_linkNewPage_f21 rfl ?_
        refine g_iload_n C dX2_linkNewPage_30 3 rfl rfl ?_
        refine g_iload_n C dX2_linkNewPage_31 0 rfl rfl ?_
        refine g_iast C 4 0 (f := P 4) (N := 128) (ws' := (wG cy g z0 (ps P 4 q (nI r)))) q dX2_linkNewPage_32 rfl rfl (by decide) (rfl) (by omega) (wG_a4 cy g z0 P q (nI r)) ?_
        refine g_aload_n C dX2_linkNewPage_33 1 rfl rfl ?_
        refine g_get C 0 (f := 4) (v := .ref (g 5)) (Cn := RX2) (T := TX2) (N := 11) dX2_linkNewPage_34 rfl rfl iX2_linkNewPage_X2 (by decide) mX2_linkNewPage_f24 rfl ?_
        refine g_iload_n C dX2_linkNewPage_37 0 rfl rfl ?_
        refine g_iload_n C dX2_linkNewPage_38 3 rfl rfl ?_
        refine g_iast C 5 0 (f := (ps P 4 q (nI r)) 5) (N := 128) (ws' := (wG cy g z0 (ps (ps P 4 q (nI r)) 5 r (nI q)))) r dX2_linkNewPage_39 rfl rfl (by decide) (rfl) (by omega) (wG_a5 cy g z0 (ps P 4 q (nI r)) r (nI q)) ?_
        refine g_aload_n C dX2_linkNewPage_40 1 rfl rfl ?_
        refine g_get C 0 (f := 5) (v := .ref (g 6)) (Cn := RX2) (T := TX2) (N := 11) dX2_linkNewPage_41 rfl rfl iX2_linkNewPage_X2 (by decide) mX2_linkNewPage_f27 rfl ?_
        refine g_iload_n C dX2_linkNewPage_44 0 rfl rfl ?_
        refine g_iload_n C dX2_linkNewPage_45 2 rfl rfl ?_
        refine g_iast C 6 0 (f := (ps (ps P 4 q (nI r)) 5 r (nI q)) 6) (N := 128) (ws' := (wG cy g z0 (ps (ps (ps P 4 q (nI r)) 5 r (nI q)) 6 r (nI b)))) r dX2_linkNewPage_46 rfl rfl (by decide) (rfl) (by omega) (wG_a6 cy g z0 (ps (ps P 4 q (nI r)) 5 r (nI q)) r (nI b)) ?_
        refine g_aload_n C dX2_linkNewPage_47 1 rfl rfl ?_
        refine g_get C 0 (f := 6) (v := .ref (g 7)) (Cn := RX2) (T := TX2) (N := 11) dX2_linkNewPage_48 rfl rfl iX2_linkNewPage_X2 (by decide) mX2_linkNewPage_f30 rfl ?_
        refine g_iload_n C dX2_linkNewPage_51 2 rfl rfl ?_
        refine g_iload_n C dX2_linkNewPage_52 0 rfl rfl ?_
        refine g_iast C 7 0 (f := (ps (ps (ps P 4 q (nI r)) 5 r (nI q)) 6 r (nI b)) 7) (N := 64) (ws' := (wG cy g z0 (ps (ps (ps (ps P 4 q (nI r)) 5 r (nI q)) 6 r (nI b)) 7 b (nI r)))) b dX2_linkNewPage_53 rfl rfl (by decide) (rfl) (by omega) (wG_a7 cy g z0 (ps (ps (ps P 4 q (nI r)) 5 r (nI q)) 6 r (nI b)) b (nI r)) ?_
        refine g_iload_n C dX2_linkNewPage_54 0 rfl rfl ?_
        exact ret _ () _ _ dX2_linkNewPage_55 rfl

theorem mX2_append_inX3_isPage : Cond.initialized yX3_isPage.cls ∈ wsX2_append := List.mem_of_getElem? (i := 20) rfl
theorem mX2_append_stX3_isPage : Cond.static yX3_isPage ∈ wsX2_append := List.mem_of_getElem? (i := 19) rfl
theorem mX2_append_f18 : Cond.fieldLink RX2 18 (TX2 2).1 (TX2 2).2.1 (TX2 2).2.2.1 ∈ wsX2_append := List.mem_of_getElem? (i := 1) rfl
theorem iX2_append_X2 : ∀ w ∈ wsX20, w ∈ wsX2_append := by decide +kernel
theorem mX2_append_f9 : Cond.fieldLink RX2 9 (TX2 0).1 (TX2 0).2.1 (TX2 0).2.2.1 ∈ wsX2_append := List.mem_of_getElem? (i := 2) rfl
theorem mX2_append_f15 : Cond.fieldLink RX2 15 (TX2 1).1 (TX2 1).2.1 (TX2 1).2.2.1 ∈ wsX2_append := List.mem_of_getElem? (i := 3) rfl
theorem mX2_append_f57 : Cond.fieldLink RX2 57 (TX2 10).1 (TX2 10).2.1 (TX2 10).2.2.1 ∈ wsX2_append := List.mem_of_getElem? (i := 4) rfl
set_option maxHeartbeats 1600000 in
set_option maxRecDepth 20000 in
theorem c_X2_append (l : Launch) (D : va_G) (cy cz : ClassId) (g : Nat → Nat) (z0 : Nat) (P : Mem) (A : AS) (b : Nat) (k : Int32) (v : Int32) (hr : RC A P) (hb : b < 64) (hroom : A.sz (A.la b) < 4 ∨ ¬ A.lf = none) : MV l yX2_append wsX2_append (rmF 2 72) D (tyL cy cz) [.ref (g 0), .int (nI b), .int k, .int v] (wG cy g z0 P) (fun (P1 : Mem) => RC (A.add b k v) P1 ∧ P1 0 0 = P 0 0 ∧ P1 0 1 = P 0 1 ∧ P1 0 2 = P 0 2 + 1) (fun P1 => (wG cy g z0 P1)) := by
  refine g_entV (cc := cX2_append) (maxL := 6) (own := RX2) (by decide) rfl rfl (Nat.le_of_ble_eq_true rfl) (fun x C ret => ?_)
  show G x l (rmF 2 72) D 6 0 0 (wG cy g z0 P) [(0, .ref (g 0)), (1, .int (nI b)), (2, .int k), (3, .int v)] [] 0
  have hq := hr.la hb
  have hz := hr.sz4 hq
  refine g_aload_n C dX2_append_0 0 rfl rfl ?_
  refine g_iload_n C dX2_append_1 1 rfl rfl ?_
  refine g_callIV C [0, 1, 2, 3, 4, 5, 6, 7] [] [0, 1, 2, 3, 4, 5, 6, 7] 0 2 (b := g 0) rfl rfl (As := [.int (nI b)]) (rest := []) (wr := ([] : va_W)) (wf := fun _ => (wG cy g z0 P)) dX2_append_2 gX2_append_X2_lastPage rfl dmX2_lastPage ⟨rfl, rfl, Nat.le_of_ble_eq_true rfl, Nat.le_of_ble_eq_true rfl, Nat.zero_le _, Nat.zero_le _⟩ (c_X2_lastPage l D cy cz g z0 P b hb) ⟨rfl, rfl, rfl, rfl, by decide, rfl, fun _ => rfl⟩ (Nat.le_of_ble_eq_true rfl) ?_
  rintro _ - rfl
  show G x l (rmF 2 72) D 6 0 0 (wG cy g z0 P) [(0, .ref (g 0)), (1, .int (nI b)), (2, .int k), (3, .int v)] [.int (P 7 b)] 5
  refine g_top (b := nI (A.la b)) (hr.last hb) ?_
  refine g_istore C (lv' := [(4, .int (nI (A.la b))), (0, .ref (g 0)), (1, .int (nI b)), (2, .int k), (3, .int v)]) dX2_append_5 (by decide) rfl ?_
  refine g_aload_n C dX2_append_7 1 rfl rfl ?_
  refine g_iload C dX2_append_8 0 rfl ?_
  refine g_callIV C [0, 1, 2, 3, 4, 5, 6, 7] [] [0, 1, 2, 3, 4, 5, 6, 7] 0 2 (b := g 0) rfl rfl (As := [.int (nI (A.la b))]) (rest := []) (wr := ([] : va_W)) (wf := fun _ => (wG cy g z0 P)) dX2_append_10 gX2_append_X2_entriesOnPage rfl dmX2_entriesOnPage ⟨rfl, rfl, Nat.le_of_ble_eq_true rfl, Nat.le_of_ble_eq_true rfl, Nat.zero_le _, Nat.zero_le _⟩ (c_X2_entriesOnPage l D cy cz g z0 P (A.la b) hq) ⟨rfl, rfl, rfl, rfl, by decide, rfl, fun _ => rfl⟩ (Nat.le_of_ble_eq_true rfl) ?_
  rintro _ - rfl
  show G x l (rmF 2 72) D 6 0 0 (wG cy g z0 P) [(4, .int (nI (A.la b))), (0, .ref (g 0)), (1, .int (nI b)), (2, .int k), (3, .int v)] [.int (P 3 (A.la b))] 13
  refine g_top (b := nI (A.sz (A.la b))) (hr.used hq) ?_
  refine g_iconst C (v := 4) dX2_append_13 (by decide) ?_
  refine g_icmp_lt C (tgt := 26) dX2_append_14 (by decide) (fun c1 => ?_) (fun c1 => ?_)
  · skip
    have hs : A.sz (A.la b) < 4 := (nI_ltI (b := 4) (by omega) (by decide)).mp c1
    refine g_iload C dX2_append_26 0 rfl ?_
    refine g_callIN C [] [0, 1, 2, 3, 4, 5, 6, 7] [0, 1, 2, 3, 4, 5, 6, 7] (As := [.int (nI (A.la b))]) (rest := []) (wr := (wG cy g z0 P)) (wf := fun _ => (wG cy g z0 P)) dX2_append_28 gX2_append_X3_isPage_n61 rfl dmX3_isPage ⟨rfl, rfl, Nat.le_of_ble_eq_true rfl, Nat.le_of_ble_eq_true rfl, Nat.zero_le _, Nat.zero_le _⟩ rfl mX2_append_inX3_isPage mX2_append_stX3_isPage (c_X3_isPage l D cy cz (nI (A.la b))) ⟨rfl, rfl, rfl, rfl, by decide, rfl, fun _ => rfl⟩ (Nat.le_of_ble_eq_true rfl) ?_
    rintro _ - rfl
    show G x l (rmF 2 72) D 6 0 0 (wG cy g z0 P) [(4, .int (nI (A.la b))), (0, .ref (g 0)), (1, .int (nI b)), (2, .int k), (3, .int v)] [.int (inI 128 (nI (A.la b)))] 31
    refine g_top (b := 1) (inI_nI (N := 128) hq (by decide)) ?_
    refine g_if_ne C (tgt := 35) dX2_append_31 (by decide) (fun c2 => ?_) (fun c2 => ?_)
    · skip
      refine g_iload C dX2_append_35 0 rfl ?_
      refine g_iconst C (v := 4) dX2_append_37 (by decide) ?_
      refine g_imul C dX2_append_38 ?_
      refine g_top (b := nI (A.la b * 4)) (pk_mul _ 4) ?_
      refine g_aload_n C dX2_append_39 1 rfl rfl ?_
      refine g_get C 0 (f := 2) (v := .ref (g 3)) (Cn := RX2) (T := TX2) (N := 11) dX2_append_40 rfl rfl iX2_append_X2 (by decide) mX2_append_f18 rfl ?_
      refine g_iload C dX2_append_43 0 rfl ?_
      refine g_iald C 3 0 (f := P 3) (N := 128) (A.la b) dX2_append_45 rfl rfl (by decide) (rfl) (hq) ?_
      refine g_top (b := nI (A.sz (A.la b))) (hr.used hq) ?_
      refine g_iadd C dX2_append_46 ?_
      refine g_top (b := nI (A.la b * 4 + A.sz (A.la b))) (nI_add _ _) ?_
      refine g_istore C (lv' := [(5, .int (nI (A.la b * 4 + A.sz (A.la b)))), (4, .int (nI (A.la b))), (0, .ref (g 0)), (1, .int (nI b)), (2, .int k), (3, .int v)]) dX2_append_47 (by decide) rfl ?_
      refine g_iload C dX2_append_49 0 rfl ?_
      refine g_if_lt C (tgt := 101) dX2_append_51 (by decide) (fun c3 => ?_) (fun c3 => ?_)
      · skip
        exact absurd c3 (nI_pos (by omega))
      · skip
        refine g_iload C dX2_append_54 0 rfl ?_
        refine g_aload_n C dX2_append_56 2 rfl rfl ?_
        refine g_get C 0 (f := 0) (v := .ref (g 1)) (Cn := RX2) (T := TX2) (N := 11) dX2_append_57 rfl rfl iX2_append_X2 (by decide) mX2_append_f9 rfl ?_
        refine g_alen C 1 0 (f := P 1) (N := 512) dX2_append_60 rfl rfl ?_
        refine g_icmp_ge C (tgt := 101) dX2_append_61 (by decide) (fun c4 => ?_) (fun c4 => ?_)
        · skip
          exact absurd c4 (nI_ge (by omega) (by decide))
        · skip
          refine g_aload_n C dX2_append_64 2 rfl rfl ?_
          refine g_get C 0 (f := 0) (v := .ref (g 1)) (Cn := RX2) (T := TX2) (N := 11) dX2_append_65 rfl rfl iX2_append_X2 (by decide) mX2_append_f9 rfl ?_
          refine g_iload C dX2_append_68 0 rfl ?_
          refine g_iload_n C dX2_append_70 4 rfl rfl ?_
          refine g_iast C 1 0 (f := P 1) (N := 512) (ws' := (wG cy g z0 (ps P 1 (A.la b * 4 + A.sz (A.la b)) k))) (A.la b * 4 + A.sz (A.la b)) dX2_append_71 rfl rfl (by decide) (rfl) (by omega) (wG_a1 cy g z0 P (A.la b * 4 + A.sz (A.la b)) k) ?_
          refine g_aload_n C dX2_append_72 2 rfl rfl ?_
          refine g_get C 0 (f := 1) (v := .ref (g 2)) (Cn := RX2) (T := TX2) (N := 11) dX2_append_73 rfl rfl iX2_append_X2 (by decide) mX2_append_f15 rfl ?_
          refine g_iload C dX2_append_76 0 rfl ?_
          refine g_iload_n C dX2_append_78 5 rfl rfl ?_
          refine g_iast C 2 0 (f := (ps P 1 (A.la b * 4 + A.sz (A.la b)) k) 2) (N := 512) (ws' := (wG cy g z0 (ps (ps P 1 (A.la b * 4 + A.sz (A.la b)) k) 2 (A.la b * 4 + A.sz (A.la b)) v))) (A.la b * 4 + A.sz (A.la b)) dX2_append_79 rfl rfl (by decide) (rfl) (by omega) (wG_a2 cy g z0 (ps P 1 (A.la b * 4 + A.sz (A.la b)) k) (A.la b * 4 + A.sz (A.la b)) v) ?_
          refine g_aload_n C dX2_append_80 2 rfl rfl ?_
          refine g_get C 0 (f := 2) (v := .ref (g 3)) (Cn := RX2) (T := TX2) (N := 11) dX2_append_81 rfl rfl iX2_append_X2 (by decide) mX2_append_f18 rfl ?_
          refine g_iload C dX2_append_84 1 rfl ?_
          refine g_dup2 C dX2_append_86 rfl rfl ?_
          refine g_iald C 3 0 (f := P 3) (N := 128) (A.la b) dX2_append_87 rfl rfl (by decide) (rfl) (hq) ?_
          refine g_top (b := nI (A.sz (A.la b))) (hr.used hq) ?_
          refine g_iconst C (v := 1) dX2_append_88 (by decide) ?_
          refine g_iadd C dX2_append_89 ?_
          refine g_top (b := nI (A.sz (A.la b) + 1)) (nI_1 _) ?_
          refine g_iast C 3 0 (f := (ps (ps P 1 (A.la b * 4 + A.sz (A.la b)) k) 2 (A.la b * 4 + A.sz (A.la b)) v) 3) (N := 128) (ws' := (wG cy g z0 (ps (ps (ps P 1 (A.la b * 4 + A.sz (A.la b)) k) 2 (A.la b * 4 + A.sz (A.la b)) v) 3 (A.la b) (nI (A.sz (A.la b) + 1))))) (A.la b) dX2_append_90 rfl rfl (by decide) (rfl) (hq) (wG_a3 cy g z0 (ps (ps P 1 (A.la b * 4 + A.sz (A.la b)) k) 2 (A.la b * 4 + A.sz (A.la b)) v) (A.la b) (nI (A.sz (A.la b) + 1))) ?_
          refine g_aload_n C dX2_append_91 2 rfl rfl ?_
          refine g_dup C dX2_append_92 rfl ?_
          refine g_get C 0 (f := 10) (v := .int (P 0 2)) (Cn := RX2) (T := TX2) (N := 11) dX2_append_93 rfl rfl iX2_append_X2 (by decide) mX2_append_f57 rfl ?_
          refine g_iconst C (v := 1) dX2_append_96 (by decide) ?_
          refine g_iadd C dX2_append_97 ?_
          refine g_put C 0 (f := 10) (v := .int ((P 0 2) + 1)) (ty := .int) (Cn := RX2) (T := TX2) (N := 11) (ws' := (wG cy g z0 (ps (ps (ps (ps P 1 (A.la b * 4 + A.sz (A.la b)) k) 2 (A.la b * 4 + A.sz (A.la b)) v) 3 (A.la b) (nI (A.sz (A.la b) + 1))) 0 2 ((P 0 2) + 1)))) dX2_append_98 rfl rfl iX2_append_X2 tyX2 tyX2_ok nmX2 (by decide) mX2_append_f57 rfl rfl (rfl) (rfl) (Nat.le_of_ble_eq_true rfl) (wG_s2 cy g z0 (ps (ps (ps P 1 (A.la b * 4 + A.sz (A.la b)) k) 2 (A.la b * 4 + A.sz (A.la b)) v) 3 (A.la b) (nI (A.sz (A.la b) + 1))) ((P 0 2) + 1)) ?_
          exact ret (ps (ps (ps (ps P 1 (A.la b * 4 + A.sz (A.la b)) k) 2 (A.la b * 4 + A.sz (A.la b)) v) 3 (A.la b) (nI (A.sz (A.la b) + 1))) 0 2 ((P 0 2) + 1)) _ _ dX2_append_101 (⟨RC_add1 hr hb hs k v _, rfl, rfl, rfl⟩)
    · skip
      exact absurd c2 (by decide)
  · skip
    have hs : ¬ A.sz (A.la b) < 4 := fun w => c1 (nI_lt w (by decide))
    obtain ⟨r, hf⟩ : ∃ r, A.lf = some r := by
      cases e : A.lf with
      | none => exact absurd e (hroom.resolve_left hs)
      | some r => exact ⟨r, rfl⟩
    obtain ⟨f1, f2, f3⟩ := WFc.lf hf
    refine g_aload_n C dX2_append_17 1 rfl rfl ?_
    refine g_iload_n C dX2_append_18 2 rfl rfl ?_
    refine g_iload C dX2_append_19 0 rfl ?_
    refine g_callIV C [0, 1, 2, 3, 4, 5, 6, 7] [] [0, 1, 2, 3, 4, 5, 6, 7] 0 2 (b := g 0) rfl rfl (As := [.int (nI b), .int (nI (A.la b))]) (rest := []) (wr := ([] : va_W)) (wf := fun _ => (wG cy g z0 (lnkP P b (A.la b) r))) dX2_append_21 gX2_append_X2_linkNewPage rfl dmX2_linkNewPage ⟨rfl, rfl, Nat.le_of_ble_eq_true rfl, Nat.le_of_ble_eq_true rfl, Nat.zero_le _, Nat.zero_le _⟩ (c_X2_linkNewPage l D cy cz g z0 P A b (A.la b) r hr hb hq hf) ⟨rfl, rfl, rfl, rfl, by decide, rfl, fun _ => rfl⟩ (Nat.le_of_ble_eq_true rfl) ?_
    rintro _ - rfl
    show G x l (rmF 2 72) D 6 0 0 (wG cy g z0 (lnkP P b (A.la b) r)) [(4, .int (nI (A.la b))), (0, .ref (g 0)), (1, .int (nI b)), (2, .int k), (3, .int v)] [.int (nI r)] 24
    refine g_istore C (lv' := [(4, .int (nI r)), (0, .ref (g 0)), (1, .int (nI b)), (2, .int k), (3, .int v)]) dX2_append_24 (by decide) rfl ?_
    refine g_iload C dX2_append_26 0 rfl ?_
    refine g_callIN C [] [0, 1, 2, 3, 4, 5, 6, 7] [0, 1, 2, 3, 4, 5, 6, 7] (As := [.int (nI r)]) (rest := []) (wr := (wG cy g z0 (lnkP P b (A.la b) r))) (wf := fun _ => (wG cy g z0 (lnkP P b (A.la b) r))) dX2_append_28 gX2_append_X3_isPage_n61 rfl dmX3_isPage ⟨rfl, rfl, Nat.le_of_ble_eq_true rfl, Nat.le_of_ble_eq_true rfl, Nat.zero_le _, Nat.zero_le _⟩ rfl mX2_append_inX3_isPage mX2_append_stX3_isPage (c_X3_isPage l D cy cz (nI r)) ⟨rfl, rfl, rfl, rfl, by decide, rfl, fun _ => rfl⟩ (Nat.le_of_ble_eq_true rfl) ?_
    rintro _ - rfl
    show G x l (rmF 2 72) D 6 0 0 (wG cy g z0 (lnkP P b (A.la b) r)) [(4, .int (nI r)), (0, .ref (g 0)), (1, .int (nI b)), (2, .int k), (3, .int v)] [.int (inI 128 (nI r))] 31
    refine g_top (b := 1) (inI_nI (N := 128) f2 (by decide)) ?_
    refine g_if_ne C (tgt := 35) dX2_append_31 (by decide) (fun c2 => ?_) (fun c2 => ?_)
    · skip
      refine g_iload C dX2_append_35 0 rfl ?_
      refine g_iconst C (v := 4) dX2_append_37 (by decide) ?_
      refine g_imul C dX2_append_38 ?_
      refine g_top (b := nI (r * 4)) (pk_mul _ 4) ?_
      refine g_aload_n C dX2_append_39 1 rfl rfl ?_
      refine g_get C 0 (f := 2) (v := .ref (g 3)) (Cn := RX2) (T := TX2) (N := 11) dX2_append_40 rfl rfl iX2_append_X2 (by decide) mX2_append_f18 rfl ?_
      refine g_iload C dX2_append_43 0 rfl ?_
      refine g_iald C 3 0 (f := (lnkP P b (A.la b) r) 3) (N := 128) r dX2_append_45 rfl rfl (by decide) (rfl) (f2) ?_
      refine g_top (b := 0) ((hr.used f2).trans (by rw [hr.1.2.2.2.2.2.1 r f1 f2 f3]; rfl)) ?_
      refine g_iadd C dX2_append_46 ?_
      refine g_top (b := nI (r * 4)) (Int32.add_zero _) ?_
      refine g_istore C (lv' := [(5, .int (nI (r * 4))), (4, .int (nI r)), (0, .ref (g 0)), (1, .int (nI b)), (2, .int k), (3, .int v)]) dX2_append_47 (by decide) rfl ?_
      refine g_iload C dX2_append_49 0 rfl ?_
      refine g_if_lt C (tgt := 101) dX2_append_51 (by decide) (fun c3 => ?_) (fun c3 => ?_)
      · skip
        exact absurd c3 (nI_pos (by omega))
      · skip
        refine g_iload C dX2_append_54 0 rfl ?_
        refine g_aload_n C dX2_append_56 2 rfl rfl ?_
        refine g_get C 0 (f := 0) (v := .ref (g 1)) (Cn := RX2) (T := TX2) (N := 11) dX2_append_57 rfl rfl iX2_append_X2 (by decide) mX2_append_f9 rfl ?_
        refine g_alen C 1 0 (f := (lnkP P b (A.la b) r) 1) (N := 512) dX2_append_60 rfl rfl ?_
        refine g_icmp_ge C (tgt := 101) dX2_append_61 (by decide) (fun c4 => ?_) (fun c4 => ?_)
        · skip
          exact absurd c4 (nI_ge (by omega) (by decide))
        · skip
          refine g_aload_n C dX2_append_64 2 rfl rfl ?_
          refine g_get C 0 (f := 0) (v := .ref (g 1)) (Cn := RX2) (T := TX2) (N := 11) dX2_append_65 rfl rfl iX2_append_X2 (by decide) mX2_append_f9 rfl ?_
          refine g_iload C dX2_append_68 0 rfl ?_
          refine g_iload_n C dX2_append_70 4 rfl rfl ?_
          refine g_iast C 1 0 (f := (lnkP P b (A.la b) r) 1) (N := 512) (ws' := (wG cy g z0 (ps (lnkP P b (A.la b) r) 1 (r * 4) k))) (r * 4) dX2_append_71 rfl rfl (by decide) (rfl) (by omega) (wG_a1 cy g z0 (lnkP P b (A.la b) r) (r * 4) k) ?_
          refine g_aload_n C dX2_append_72 2 rfl rfl ?_
          refine g_get C 0 (f := 1) (v := .ref (g 2)) (Cn := RX2) (T := TX2) (N := 11) dX2_append_73 rfl rfl iX2_append_X2 (by decide) mX2_append_f15 rfl ?_
          refine g_iload C dX2_append_76 0 rfl ?_
          refine g_iload_n C dX2_append_78 5 rfl rfl ?_
          refine g_iast C 2 0 (f := (ps (lnkP P b (A.la b) r) 1 (r * 4) k) 2) (N := 512) (ws' := (wG cy g z0 (ps (ps (lnkP P b (A.la b) r) 1 (r * 4) k) 2 (r * 4) v))) (r * 4) dX2_append_79 rfl rfl (by decide) (rfl) (by omega) (wG_a2 cy g z0 (ps (lnkP P b (A.la b) r) 1 (r * 4) k) (r * 4) v) ?_
          refine g_aload_n C dX2_append_80 2 rfl rfl ?_
          refine g_get C 0 (f := 2) (v := .ref (g 3)) (Cn := RX2) (T := TX2) (N := 11) dX2_append_81 rfl rfl iX2_append_X2 (by decide) mX2_append_f18 rfl ?_
          refine g_iload C dX2_append_84 1 rfl ?_
          refine g_dup2 C dX2_append_86 rfl rfl ?_
          refine g_iald C 3 0 (f := (lnkP P b (A.la b) r) 3) (N := 128) r dX2_append_87 rfl rfl (by decide) (rfl) (f2) ?_
          refine g_top (b := 0) ((hr.used f2).trans (by rw [hr.1.2.2.2.2.2.1 r f1 f2 f3]; rfl)) ?_
          refine g_iconst C (v := 1) dX2_append_88 (by decide) ?_
          refine g_iadd C dX2_append_89 ?_
          refine g_top (b := nI 1) (rfl) ?_
          refine g_iast C 3 0 (f := (ps (ps (lnkP P b (A.la b) r) 1 (r * 4) k) 2 (r * 4) v) 3) (N := 128) (ws' := (wG cy g z0 (ps (ps (ps (lnkP P b (A.la b) r) 1 (r * 4) k) 2 (r * 4) v) 3 r (nI 1)))) r dX2_append_90 rfl rfl (by decide) (rfl) (f2) (wG_a3 cy g z0 (ps (ps (lnkP P b (A.la b) r) 1 (r * 4) k) 2 (r * 4) v) r (nI 1)) ?_
          refine g_aload_n C dX2_append_91 2 rfl rfl ?_
          refine g_dup C dX2_append_92 rfl ?_
          refine g_get C 0 (f := 10) (v := .int ((lnkP P b (A.la b) r) 0 2)) (Cn := RX2) (T := TX2) (N := 11) dX2_append_93 rfl rfl iX2_append_X2 (by decide) mX2_append_f57 rfl ?_
          refine g_iconst C (v := 1) dX2_append_96 (by decide) ?_
          refine g_iadd C dX2_append_97 ?_
          refine g_put C 0 (f := 10) (v := .int (((lnkP P b (A.la b) r) 0 2) + 1)) (ty := .int) (Cn := RX2) (T := TX2) (N := 11) (ws' := (wG cy g z0 (ps (ps (ps (ps (lnkP P b (A.la b) r) 1 (r * 4) k) 2 (r * 4) v) 3 r (nI 1)) 0 2 (((lnkP P b (A.la b) r) 0 2) + 1)))) dX2_append_98 rfl rfl iX2_append_X2 tyX2 tyX2_ok nmX2 (by decide) mX2_append_f57 rfl rfl (rfl) (rfl) (Nat.le_of_ble_eq_true rfl) (wG_s2 cy g z0 (ps (ps (ps (lnkP P b (A.la b) r) 1 (r * 4) k) 2 (r * 4) v) 3 r (nI 1)) (((lnkP P b (A.la b) r) 0 2) + 1)) ?_
          exact ret (ps (ps (ps (ps (lnkP P b (A.la b) r) 1 (r * 4) k) 2 (r * 4) v) 3 r (nI 1)) 0 2 (((lnkP P b (A.la b) r) 0 2) + 1)) _ _ dX2_append_101 (⟨RC_add2 hr hb hs hf k v _, rfl, rfl, rfl⟩)
    · skip
      exact absurd c2 (by decide)

theorem mX2_unlinkLast_inX3_isPage : Cond.initialized yX3_isPage.cls ∈ wsX2_unlinkLast := List.mem_of_getElem? (i := 6) rfl
theorem mX2_unlinkLast_stX3_isPage : Cond.static yX3_isPage ∈ wsX2_unlinkLast := List.mem_of_getElem? (i := 5) rfl
theorem mX2_unlinkLast_f24 : Cond.fieldLink RX2 24 (TX2 4).1 (TX2 4).2.1 (TX2 4).2.2.1 ∈ wsX2_unlinkLast := List.mem_of_getElem? (i := 1) rfl
theorem iX2_unlinkLast_X2 : ∀ w ∈ wsX20, w ∈ wsX2_unlinkLast := by decide +kernel
theorem mX2_unlinkLast_f21 : Cond.fieldLink RX2 21 (TX2 3).1 (TX2 3).2.1 (TX2 3).2.2.1 ∈ wsX2_unlinkLast := List.mem_of_getElem? (i := 3) rfl
theorem mX2_unlinkLast_k37 : Cond.constant RX2 37 (-2000000005) ∈ wsX2_unlinkLast := List.mem_of_getElem? (i := 2) rfl
theorem mX2_unlinkLast_f30 : Cond.fieldLink RX2 30 (TX2 6).1 (TX2 6).2.1 (TX2 6).2.2.1 ∈ wsX2_unlinkLast := List.mem_of_getElem? (i := 4) rfl
set_option maxHeartbeats 1600000 in
set_option maxRecDepth 20000 in
theorem c_X2_unlinkLast (l : Launch) (D : va_G) (cy cz : ClassId) (g : Nat → Nat) (z0 : Nat) (P : Mem) (b : Nat) (p : Nat) (q : Nat) (hb : b < 64) (hp : p < 128) (hq : q < 128) (he : P 5 p = nI q) : MVd l yX2_unlinkLast wsX2_unlinkLast (rmF 2 72) D (tyL cy cz) [.ref (g 0), .int (nI b), .int (nI p)] (wG cy g z0 P) (wG cy g z0 (clrP (ps (ps P 4 q vNONE) 7 b (nI q)) p)) := by
  refine g_entV (cc := cX2_unlinkLast) (maxL := 4) (own := RX2) (by decide) rfl rfl (Nat.le_of_ble_eq_true rfl) (fun x C ret => ?_)
  show G x l (rmF 2 72) D 4 0 0 (wG cy g z0 P) [(0, .ref (g 0)), (1, .int (nI b)), (2, .int (nI p))] [] 0
  refine g_iload_n C dX2_unlinkLast_0 2 rfl rfl ?_
  refine g_callIN C [] [0, 1, 2, 3, 4, 5, 6, 7] [0, 1, 2, 3, 4, 5, 6, 7] (As := [.int (nI p)]) (rest := []) (wr := (wG cy g z0 P)) (wf := fun _ => (wG cy g z0 P)) dX2_unlinkLast_1 gX2_unlinkLast_X3_isPage_n61 rfl dmX3_isPage ⟨rfl, rfl, Nat.le_of_ble_eq_true rfl, Nat.le_of_ble_eq_true rfl, Nat.zero_le _, Nat.zero_le _⟩ rfl mX2_unlinkLast_inX3_isPage mX2_unlinkLast_stX3_isPage (c_X3_isPage l D cy cz (nI p)) ⟨rfl, rfl, rfl, rfl, by decide, rfl, fun _ => rfl⟩ (Nat.le_of_ble_eq_true rfl) ?_
  rintro _ - rfl
  show G x l (rmF 2 72) D 4 0 0 (wG cy g z0 P) [(0, .ref (g 0)), (1, .int (nI b)), (2, .int (nI p))] [.int (inI 128 (nI p))] 4
  refine g_top (b := 1) (inI_nI (N := 128) hp (by decide)) ?_
  refine g_if_eq C (tgt := 16) dX2_unlinkLast_4 (by decide) (fun c1 => ?_) (fun c1 => ?_)
  · skip
    exact absurd c1 (by decide)
  · skip
    refine g_aload_n C dX2_unlinkLast_7 0 rfl rfl ?_
    refine g_get C 0 (f := 4) (v := .ref (g 5)) (Cn := RX2) (T := TX2) (N := 11) dX2_unlinkLast_8 rfl rfl iX2_unlinkLast_X2 (by decide) mX2_unlinkLast_f24 rfl ?_
    refine g_iload_n C dX2_unlinkLast_11 2 rfl rfl ?_
    refine g_iald C 5 0 (f := P 5) (N := 128) p dX2_unlinkLast_12 rfl rfl (by decide) (rfl) (by omega) ?_
    refine g_top (b := nI q) (he) ?_
    refine g_goto C (tgt := 18) dX2_unlinkLast_13 (by decide) ?_
    refine g_istore_n C (lv' := [(3, .int (nI q)), (0, .ref (g 0)), (1, .int (nI b)), (2, .int (nI p))]) dX2_unlinkLast_18 rfl (by decide) rfl ?_
    refine g_iload_n C dX2_unlinkLast_19 0 rfl rfl ?_
    refine g_callIN C [] [0, 1, 2, 3, 4, 5, 6, 7] [0, 1, 2, 3, 4, 5, 6, 7] (As := [.int (nI q)]) (rest := []) (wr := (wG cy g z0 P)) (wf := fun _ => (wG cy g z0 P)) dX2_unlinkLast_20 gX2_unlinkLast_X3_isPage_n61 rfl dmX3_isPage ⟨rfl, rfl, Nat.le_of_ble_eq_true rfl, Nat.le_of_ble_eq_true rfl, Nat.zero_le _, Nat.zero_le _⟩ rfl mX2_unlinkLast_inX3_isPage mX2_unlinkLast_stX3_isPage (c_X3_isPage l D cy cz (nI q)) ⟨rfl, rfl, rfl, rfl, by decide, rfl, fun _ => rfl⟩ (Nat.le_of_ble_eq_true rfl) ?_
    rintro _ - rfl
    show G x l (rmF 2 72) D 4 0 0 (wG cy g z0 P) [(3, .int (nI q)), (0, .ref (g 0)), (1, .int (nI b)), (2, .int (nI p))] [.int (inI 128 (nI q))] 23
    refine g_top (b := 1) (inI_nI (N := 128) hq (by decide)) ?_
    refine g_if_eq C (tgt := 53) dX2_unlinkLast_23 (by decide) (fun c2 => ?_) (fun c2 => ?_)
    · skip
      exact absurd c2 (by decide)
    · skip
      refine g_iload_n C dX2_unlinkLast_26 2 rfl rfl ?_
      refine g_callIS C [] [0, 1, 2, 3, 4, 5, 6, 7] [0, 1, 2, 3, 4, 5, 6, 7] (As := [.int (nI b)]) (rest := []) (wr := (wG cy g z0 P)) (wf := fun _ => (wG cy g z0 P)) dX2_unlinkLast_27 gX2_unlinkLast_X2_isBucketPlace rfl dmX2_isBucketPlace ⟨rfl, rfl, Nat.le_of_ble_eq_true rfl, Nat.le_of_ble_eq_true rfl, Nat.zero_le _, Nat.zero_le _⟩ (c_X2_isBucketPlace l D cy cz (nI b)) ⟨rfl, rfl, rfl, rfl, by decide, rfl, fun _ => rfl⟩ (Nat.le_of_ble_eq_true rfl) ?_
      rintro _ - rfl
      show G x l (rmF 2 72) D 4 0 0 (wG cy g z0 P) [(3, .int (nI q)), (0, .ref (g 0)), (1, .int (nI b)), (2, .int (nI p))] [.int (inI 64 (nI b))] 30
      refine g_top (b := 1) (inI_nI (N := 64) hb (by decide)) ?_
      refine g_if_eq C (tgt := 53) dX2_unlinkLast_30 (by decide) (fun c3 => ?_) (fun c3 => ?_)
      · skip
        exact absurd c3 (by decide)
      · skip
        refine g_aload_n C dX2_unlinkLast_33 1 rfl rfl ?_
        refine g_get C 0 (f := 3) (v := .ref (g 4)) (Cn := RX2) (T := TX2) (N := 11) dX2_unlinkLast_34 rfl rfl iX2_unlinkLast_X2 (by decide) mX2_unlinkLast_f21 rfl ?_
        refine g_iload_n C dX2_unlinkLast_37 0 rfl rfl ?_
        refine g_ldc C (v := vNONE) mX2_unlinkLast_k37 dX2_unlinkLast_38 ?_
        refine g_iast C 4 0 (f := P 4) (N := 128) (ws' := (wG cy g z0 (ps P 4 q vNONE))) q dX2_unlinkLast_40 rfl rfl (by decide) (rfl) (by omega) (wG_a4 cy g z0 P q vNONE) ?_
        refine g_aload_n C dX2_unlinkLast_41 1 rfl rfl ?_
        refine g_get C 0 (f := 6) (v := .ref (g 7)) (Cn := RX2) (T := TX2) (N := 11) dX2_unlinkLast_42 rfl rfl iX2_unlinkLast_X2 (by decide) mX2_unlinkLast_f30 rfl ?_
        refine g_iload_n C dX2_unlinkLast_45 2 rfl rfl ?_
        refine g_iload_n C dX2_unlinkLast_46 0 rfl rfl ?_
        refine g_iast C 7 0 (f := (ps P 4 q vNONE) 7) (N := 64) (ws' := (wG cy g z0 (ps (ps P 4 q vNONE) 7 b (nI q)))) b dX2_unlinkLast_47 rfl rfl (by decide) (rfl) (by omega) (wG_a7 cy g z0 (ps P 4 q vNONE) b (nI q)) ?_
        refine g_aload_n C dX2_unlinkLast_48 1 rfl rfl ?_
        refine g_iload_n C dX2_unlinkLast_49 3 rfl rfl ?_
        refine g_callVV C [0, 1, 2, 3, 4, 5, 6, 7] [] [0, 1, 2, 3, 4, 5, 6, 7] 0 2 (b := g 0) rfl rfl (As := [.int (nI p)]) (rest := []) (wr := ([] : va_W)) (wf := fun _ => (wG cy g z0 (clrP (ps (ps P 4 q vNONE) 7 b (nI q)) p))) dX2_unlinkLast_50 gX2_unlinkLast_X2_clearPage rfl dmX2_clearPage ⟨rfl, rfl, Nat.le_of_ble_eq_true rfl, Nat.le_of_ble_eq_true rfl, Nat.zero_le _, Nat.zero_le _⟩ (c_X2_clearPage l D cy cz g z0 (ps (ps P 4 q vNONE) 7 b (nI q)) p hp) ⟨rfl, rfl, rfl, rfl, by decide, rfl, fun _ => rfl⟩ (Nat.le_of_ble_eq_true rfl) ?_
        rintro - -
        show G x l (rmF 2 72) D 4 0 0 (wG cy g z0 (clrP (ps (ps P 4 q vNONE) 7 b (nI q)) p)) [(3, .int (nI q)), (0, .ref (g 0)), (1, .int (nI b)), (2, .int (nI p))] [] 53
        exact ret () _ _ dX2_unlinkLast_53 trivial

theorem mX2_takeOut_inX3_isPage : Cond.initialized yX3_isPage.cls ∈ wsX2_takeOut := List.mem_of_getElem? (i := 16) rfl
theorem mX2_takeOut_stX3_isPage : Cond.static yX3_isPage ∈ wsX2_takeOut := List.mem_of_getElem? (i := 15) rfl
theorem mX2_takeOut_f9 : Cond.fieldLink RX2 9 (TX2 0).1 (TX2 0).2.1 (TX2 0).2.2.1 ∈ wsX2_takeOut := List.mem_of_getElem? (i := 1) rfl
theorem iX2_takeOut_X2 : ∀ w ∈ wsX20, w ∈ wsX2_takeOut := by decide +kernel
theorem mX2_takeOut_f18 : Cond.fieldLink RX2 18 (TX2 2).1 (TX2 2).2.1 (TX2 2).2.2.1 ∈ wsX2_takeOut := List.mem_of_getElem? (i := 2) rfl
theorem mX2_takeOut_f15 : Cond.fieldLink RX2 15 (TX2 1).1 (TX2 1).2.1 (TX2 1).2.2.1 ∈ wsX2_takeOut := List.mem_of_getElem? (i := 3) rfl
theorem mX2_takeOut_f57 : Cond.fieldLink RX2 57 (TX2 10).1 (TX2 10).2.1 (TX2 10).2.2.1 ∈ wsX2_takeOut := List.mem_of_getElem? (i := 4) rfl
set_option maxHeartbeats 1600000 in
set_option maxRecDepth 20000 in
theorem c_X2_takeOut (l : Launch) (D : va_G) (cy cz : ClassId) (g : Nat → Nat) (z0 : Nat) (P : Mem) (A : AS) (b : Nat) (c : Nat) (hr : RC A P) (hb : b < 64) (hc : c < 512) (hl : A.live b c) : MV l yX2_takeOut wsX2_takeOut (rmF 3 108) D (tyL cy cz) [.ref (g 0), .int (nI b), .int (nI c)] (wG cy g z0 P) (fun (P1 : Mem) => RC (A.del b c) P1 ∧ P1 0 0 = P 0 0 ∧ P1 0 1 = P 0 1 ∧ P1 0 2 = P 0 2 - 1) (fun P1 => (wG cy g z0 P1)) := by
  refine g_entV (cc := cX2_takeOut) (maxL := 5) (own := RX2) (by decide) rfl rfl (Nat.le_of_ble_eq_true rfl) (fun x C ret => ?_)
  show G x l (rmF 3 108) D 5 0 0 (wG cy g z0 P) [(0, .ref (g 0)), (1, .int (nI b)), (2, .int (nI c))] [] 0
  have hq := hr.la hb
  have hz := hr.sz4 hq
  have h1 := hr.1.la1 hb hl
  refine g_aload_n C dX2_takeOut_0 0 rfl rfl ?_
  refine g_iload_n C dX2_takeOut_1 1 rfl rfl ?_
  refine g_callIV C [0, 1, 2, 3, 4, 5, 6, 7] [] [0, 1, 2, 3, 4, 5, 6, 7] 0 2 (b := g 0) rfl rfl (As := [.int (nI b)]) (rest := []) (wr := ([] : va_W)) (wf := fun _ => (wG cy g z0 P)) dX2_takeOut_2 gX2_takeOut_X2_lastPage rfl dmX2_lastPage ⟨rfl, rfl, Nat.le_of_ble_eq_true rfl, Nat.le_of_ble_eq_true rfl, Nat.zero_le _, Nat.zero_le _⟩ (c_X2_lastPage l D cy cz g z0 P b hb) ⟨rfl, rfl, rfl, rfl, by decide, rfl, fun _ => rfl⟩ (Nat.le_of_ble_eq_true rfl) ?_
  rintro _ - rfl
  show G x l (rmF 3 108) D 5 0 0 (wG cy g z0 P) [(0, .ref (g 0)), (1, .int (nI b)), (2, .int (nI c))] [.int (P 7 b)] 5
  refine g_top (b := nI (A.la b)) (hr.last hb) ?_
  refine g_istore_n C (lv' := [(3, .int (nI (A.la b))), (0, .ref (g 0)), (1, .int (nI b)), (2, .int (nI c))]) dX2_takeOut_5 rfl (by decide) rfl ?_
  refine g_iload_n C dX2_takeOut_6 0 rfl rfl ?_
  refine g_callIN C [] [0, 1, 2, 3, 4, 5, 6, 7] [0, 1, 2, 3, 4, 5, 6, 7] (As := [.int (nI (A.la b))]) (rest := []) (wr := (wG cy g z0 P)) (wf := fun _ => (wG cy g z0 P)) dX2_takeOut_7 gX2_takeOut_X3_isPage_n61 rfl dmX3_isPage ⟨rfl, rfl, Nat.le_of_ble_eq_true rfl, Nat.le_of_ble_eq_true rfl, Nat.zero_le _, Nat.zero_le _⟩ rfl mX2_takeOut_inX3_isPage mX2_takeOut_stX3_isPage (c_X3_isPage l D cy cz (nI (A.la b))) ⟨rfl, rfl, rfl, rfl, by decide, rfl, fun _ => rfl⟩ (Nat.le_of_ble_eq_true rfl) ?_
  rintro _ - rfl
  show G x l (rmF 3 108) D 5 0 0 (wG cy g z0 P) [(3, .int (nI (A.la b))), (0, .ref (g 0)), (1, .int (nI b)), (2, .int (nI c))] [.int (inI 128 (nI (A.la b)))] 10
  refine g_top (b := 1) (inI_nI (N := 128) hq (by decide)) ?_
  refine g_if_eq C (tgt := 26) dX2_takeOut_10 (by decide) (fun c1 => ?_) (fun c1 => ?_)
  · skip
    exact absurd c1 (by decide)
  · skip
    refine g_iload_n C dX2_takeOut_13 3 rfl rfl ?_
    refine g_if_lt C (tgt := 26) dX2_takeOut_14 (by decide) (fun c2 => ?_) (fun c2 => ?_)
    · skip
      exact absurd c2 (nI_pos (by omega))
    · skip
      refine g_iload_n C dX2_takeOut_17 3 rfl rfl ?_
      refine g_aload_n C dX2_takeOut_18 1 rfl rfl ?_
      refine g_get C 0 (f := 0) (v := .ref (g 1)) (Cn := RX2) (T := TX2) (N := 11) dX2_takeOut_19 rfl rfl iX2_takeOut_X2 (by decide) mX2_takeOut_f9 rfl ?_
      refine g_alen C 1 0 (f := P 1) (N := 512) dX2_takeOut_22 rfl rfl ?_
      refine g_icmp_lt C (tgt := 27) dX2_takeOut_23 (by decide) (fun c3 => ?_) (fun c3 => ?_)
      · skip
        refine g_iload_n C dX2_takeOut_27 0 rfl rfl ?_
        refine g_iconst C (v := 4) dX2_takeOut_28 (by decide) ?_
        refine g_imul C dX2_takeOut_29 ?_
        refine g_top (b := nI (A.la b * 4)) (pk_mul _ 4) ?_
        refine g_aload_n C dX2_takeOut_30 1 rfl rfl ?_
        refine g_get C 0 (f := 2) (v := .ref (g 3)) (Cn := RX2) (T := TX2) (N := 11) dX2_takeOut_31 rfl rfl iX2_takeOut_X2 (by decide) mX2_takeOut_f18 rfl ?_
        refine g_iload_n C dX2_takeOut_34 0 rfl rfl ?_
        refine g_iald C 3 0 (f := P 3) (N := 128) (A.la b) dX2_takeOut_35 rfl rfl (by decide) (rfl) (hq) ?_
        refine g_top (b := nI (A.sz (A.la b))) (hr.used hq) ?_
        refine g_iadd C dX2_takeOut_36 ?_
        refine g_top (b := nI (A.la b * 4 + A.sz (A.la b))) (nI_add _ _) ?_
        refine g_iconst C (v := 1) dX2_takeOut_37 (by decide) ?_
        refine g_isub C dX2_takeOut_38 ?_
        refine g_top (b := nI (A.la b * 4 + (A.sz (A.la b) - 1))) ((pk_sub (a := A.la b * 4 + A.sz (A.la b)) (b := 1) (by omega)).trans (congrArg nI (by omega))) ?_
        refine g_istore C (lv' := [(4, .int (nI (A.la b * 4 + (A.sz (A.la b) - 1)))), (3, .int (nI (A.la b))), (0, .ref (g 0)), (1, .int (nI b)), (2, .int (nI c))]) dX2_takeOut_39 (by decide) rfl ?_
        refine g_iload C dX2_takeOut_41 0 rfl ?_
        refine g_if_lt C (tgt := 56) dX2_takeOut_43 (by decide) (fun c4 => ?_) (fun c4 => ?_)
        · skip
          exact absurd c4 (nI_pos (by omega))
        · skip
          refine g_iload C dX2_takeOut_46 0 rfl ?_
          refine g_aload_n C dX2_takeOut_48 2 rfl rfl ?_
          refine g_get C 0 (f := 0) (v := .ref (g 1)) (Cn := RX2) (T := TX2) (N := 11) dX2_takeOut_49 rfl rfl iX2_takeOut_X2 (by decide) mX2_takeOut_f9 rfl ?_
          refine g_alen C 1 0 (f := P 1) (N := 512) dX2_takeOut_52 rfl rfl ?_
          refine g_icmp_lt C (tgt := 57) dX2_takeOut_53 (by decide) (fun c5 => ?_) (fun c5 => ?_)
          · skip
            refine g_aload_n C dX2_takeOut_57 2 rfl rfl ?_
            refine g_get C 0 (f := 0) (v := .ref (g 1)) (Cn := RX2) (T := TX2) (N := 11) dX2_takeOut_58 rfl rfl iX2_takeOut_X2 (by decide) mX2_takeOut_f9 rfl ?_
            refine g_iload_n C dX2_takeOut_61 4 rfl rfl ?_
            refine g_aload_n C dX2_takeOut_62 2 rfl rfl ?_
            refine g_get C 0 (f := 0) (v := .ref (g 1)) (Cn := RX2) (T := TX2) (N := 11) dX2_takeOut_63 rfl rfl iX2_takeOut_X2 (by decide) mX2_takeOut_f9 rfl ?_
            refine g_iload C dX2_takeOut_66 0 rfl ?_
            refine g_iald C 1 0 (f := P 1) (N := 512) (A.la b * 4 + (A.sz (A.la b) - 1)) dX2_takeOut_68 rfl rfl (by decide) (rfl) (by omega) ?_
            refine g_iast C 1 0 (f := P 1) (N := 512) (ws' := (wG cy g z0 (ps P 1 c (P 1 (A.la b * 4 + (A.sz (A.la b) - 1)))))) c dX2_takeOut_69 rfl rfl (by decide) (rfl) (hc) (wG_a1 cy g z0 P c (P 1 (A.la b * 4 + (A.sz (A.la b) - 1)))) ?_
            refine g_aload_n C dX2_takeOut_70 2 rfl rfl ?_
            refine g_get C 0 (f := 1) (v := .ref (g 2)) (Cn := RX2) (T := TX2) (N := 11) dX2_takeOut_71 rfl rfl iX2_takeOut_X2 (by decide) mX2_takeOut_f15 rfl ?_
            refine g_iload_n C dX2_takeOut_74 4 rfl rfl ?_
            refine g_aload_n C dX2_takeOut_75 2 rfl rfl ?_
            refine g_get C 0 (f := 1) (v := .ref (g 2)) (Cn := RX2) (T := TX2) (N := 11) dX2_takeOut_76 rfl rfl iX2_takeOut_X2 (by decide) mX2_takeOut_f15 rfl ?_
            refine g_iload C dX2_takeOut_79 0 rfl ?_
            refine g_iald C 2 0 (f := P 2) (N := 512) (A.la b * 4 + (A.sz (A.la b) - 1)) dX2_takeOut_81 rfl rfl (by decide) (rfl) (by omega) ?_
            refine g_iast C 2 0 (f := (ps P 1 c (P 1 (A.la b * 4 + (A.sz (A.la b) - 1)))) 2) (N := 512) (ws' := (wG cy g z0 (ps (ps P 1 c (P 1 (A.la b * 4 + (A.sz (A.la b) - 1)))) 2 c (P 2 (A.la b * 4 + (A.sz (A.la b) - 1)))))) c dX2_takeOut_82 rfl rfl (by decide) (rfl) (hc) (wG_a2 cy g z0 (ps P 1 c (P 1 (A.la b * 4 + (A.sz (A.la b) - 1)))) c (P 2 (A.la b * 4 + (A.sz (A.la b) - 1)))) ?_
            refine g_aload_n C dX2_takeOut_83 2 rfl rfl ?_
            refine g_get C 0 (f := 2) (v := .ref (g 3)) (Cn := RX2) (T := TX2) (N := 11) dX2_takeOut_84 rfl rfl iX2_takeOut_X2 (by decide) mX2_takeOut_f18 rfl ?_
            refine g_iload_n C dX2_takeOut_87 1 rfl rfl ?_
            refine g_dup2 C dX2_takeOut_88 rfl rfl ?_
            refine g_iald C 3 0 (f := P 3) (N := 128) (A.la b) dX2_takeOut_89 rfl rfl (by decide) (rfl) (hq) ?_
            refine g_top (b := nI (A.sz (A.la b))) (hr.used hq) ?_
            refine g_iconst C (v := 1) dX2_takeOut_90 (by decide) ?_
            refine g_isub C dX2_takeOut_91 ?_
            refine g_top (b := nI (A.sz (A.la b) - 1)) (pk_sub (b := 1) h1) ?_
            refine g_iast C 3 0 (f := (ps (ps P 1 c (P 1 (A.la b * 4 + (A.sz (A.la b) - 1)))) 2 c (P 2 (A.la b * 4 + (A.sz (A.la b) - 1)))) 3) (N := 128) (ws' := (wG cy g z0 (ps (ps (ps P 1 c (P 1 (A.la b * 4 + (A.sz (A.la b) - 1)))) 2 c (P 2 (A.la b * 4 + (A.sz (A.la b) - 1)))) 3 (A.la b) (nI (A.sz (A.la b) - 1))))) (A.la b) dX2_takeOut_92 rfl rfl (by decide) (rfl) (hq) (wG_a3 cy g z0 (ps (ps P 1 c (P 1 (A.la b * 4 + (A.sz (A.la b) - 1)))) 2 c (P 2 (A.la b * 4 + (A.sz (A.la b) - 1)))) (A.la b) (nI (A.sz (A.la b) - 1))) ?_
            refine g_aload_n C dX2_takeOut_93 2 rfl rfl ?_
            refine g_dup C dX2_takeOut_94 rfl ?_
            refine g_get C 0 (f := 10) (v := .int (P 0 2)) (Cn := RX2) (T := TX2) (N := 11) dX2_takeOut_95 rfl rfl iX2_takeOut_X2 (by decide) mX2_takeOut_f57 rfl ?_
            refine g_iconst C (v := 1) dX2_takeOut_98 (by decide) ?_
            refine g_isub C dX2_takeOut_99 ?_
            refine g_put C 0 (f := 10) (v := .int ((P 0 2) - 1)) (ty := .int) (Cn := RX2) (T := TX2) (N := 11) (ws' := (wG cy g z0 (ps (ps (ps (ps P 1 c (P 1 (A.la b * 4 + (A.sz (A.la b) - 1)))) 2 c (P 2 (A.la b * 4 + (A.sz (A.la b) - 1)))) 3 (A.la b) (nI (A.sz (A.la b) - 1))) 0 2 ((P 0 2) - 1)))) dX2_takeOut_100 rfl rfl iX2_takeOut_X2 tyX2 tyX2_ok nmX2 (by decide) mX2_takeOut_f57 rfl rfl (rfl) (rfl) (Nat.le_of_ble_eq_true rfl) (wG_s2 cy g z0 (ps (ps (ps P 1 c (P 1 (A.la b * 4 + (A.sz (A.la b) - 1)))) 2 c (P 2 (A.la b * 4 + (A.sz (A.la b) - 1)))) 3 (A.la b) (nI (A.sz (A.la b) - 1))) ((P 0 2) - 1)) ?_
            refine g_aload_n C dX2_takeOut_103 2 rfl rfl ?_
            refine g_get C 0 (f := 2) (v := .ref (g 3)) (Cn := RX2) (T := TX2) (N := 11) dX2_takeOut_104 rfl rfl iX2_takeOut_X2 (by decide) mX2_takeOut_f18 rfl ?_
            refine g_iload_n C dX2_takeOut_107 1 rfl rfl ?_
            refine g_iald C 3 0 (f := upd (P 3) (A.la b) (nI (A.sz (A.la b) - 1))) (N := 128) (A.la b) dX2_takeOut_108 rfl rfl (by decide) (rfl) (hq) ?_
            refine g_top (b := nI (A.sz (A.la b) - 1)) (pk_us) ?_
            refine g_if_ne C (tgt := 124) dX2_takeOut_109 (by decide) (fun c6 => ?_) (fun c6 => ?_)
            · skip
              have hs : ¬ (A.sz (A.la b) - 1 = 0 ∧ 64 ≤ A.la b) := fun w => c6 (by rw [w.1]; rfl)
              exact ret (ps (ps (ps (ps P 1 c (P 1 (A.la b * 4 + (A.sz (A.la b) - 1)))) 2 c (P 2 (A.la b * 4 + (A.sz (A.la b) - 1)))) 3 (A.la b) (nI (A.sz (A.la b) - 1))) 0 2 ((P 0 2) - 1)) _ _ dX2_takeOut_124 (⟨RC_del1 hr hb h1 hs _, rfl, rfl, rfl⟩)
            · skip
              refine g_iload_n C dX2_takeOut_112 1 rfl rfl ?_
              refine g_bipush C (v := 64) dX2_takeOut_113 (by decide) ?_
              refine g_icmp_lt C (tgt := 124) dX2_takeOut_115 (by decide) (fun c7 => ?_) (fun c7 => ?_)
              · skip
                have hs : ¬ (A.sz (A.la b) - 1 = 0 ∧ 64 ≤ A.la b) := fun w => absurd ((nI_ltI (b := 64) (by omega) (by decide)).mp c7) (by omega)
                exact ret (ps (ps (ps (ps P 1 c (P 1 (A.la b * 4 + (A.sz (A.la b) - 1)))) 2 c (P 2 (A.la b * 4 + (A.sz (A.la b) - 1)))) 3 (A.la b) (nI (A.sz (A.la b) - 1))) 0 2 ((P 0 2) - 1)) _ _ dX2_takeOut_124 (⟨RC_del1 hr hb h1 hs _, rfl, rfl, rfl⟩)
              · skip
                have h64 : 64 ≤ A.la b := Nat.le_of_not_lt (fun w => c7 (nI_lt w (by decide)))
                have hs : A.sz (A.la b) - 1 = 0 ∧ 64 ≤ A.la b := ⟨(nI_eq (b := 0) (by omega) (by decide)).mp c6, h64⟩
                have ha := hr.ahead hb h64
                refine g_aload_n C dX2_takeOut_118 2 rfl rfl ?_
                refine g_iload_n C dX2_takeOut_119 3 rfl rfl ?_
                refine g_iload_n C dX2_takeOut_120 1 rfl rfl ?_
                refine g_callVV C [0, 1, 2, 3, 4, 5, 6, 7] [] [0, 1, 2, 3, 4, 5, 6, 7] 0 2 (b := g 0) rfl rfl (As := [.int (nI b), .int (nI (A.la b))]) (rest := []) (wr := ([] : va_W)) (wf := fun _ => (wG cy g z0 (clrP (ps (ps (ps (ps (ps (ps P 1 c (P 1 (A.la b * 4 + (A.sz (A.la b) - 1)))) 2 c (P 2 (A.la b * 4 + (A.sz (A.la b) - 1)))) 3 (A.la b) (nI (A.sz (A.la b) - 1))) 0 2 ((P 0 2) - 1)) 4 (lst b (A.tl b).dropLast) vNONE) 7 b (nI (lst b (A.tl b).dropLast))) (A.la b)))) dX2_takeOut_121 gX2_takeOut_X2_unlinkLast rfl dmX2_unlinkLast ⟨rfl, rfl, Nat.le_of_ble_eq_true rfl, Nat.le_of_ble_eq_true rfl, Nat.zero_le _, Nat.zero_le _⟩ (c_X2_unlinkLast l D cy cz g z0 (ps (ps (ps (ps P 1 c (P 1 (A.la b * 4 + (A.sz (A.la b) - 1)))) 2 c (P 2 (A.la b * 4 + (A.sz (A.la b) - 1)))) 3 (A.la b) (nI (A.sz (A.la b) - 1))) 0 2 ((P 0 2) - 1)) b (A.la b) (lst b (A.tl b).dropLast) hb hq ha.2 ha.1) ⟨rfl, rfl, rfl, rfl, by decide, rfl, fun _ => rfl⟩ (Nat.le_of_ble_eq_true rfl) ?_
                rintro - -
                show G x l (rmF 3 108) D 5 0 0 (wG cy g z0 (clrP (ps (ps (ps (ps (ps (ps P 1 c (P 1 (A.la b * 4 + (A.sz (A.la b) - 1)))) 2 c (P 2 (A.la b * 4 + (A.sz (A.la b) - 1)))) 3 (A.la b) (nI (A.sz (A.la b) - 1))) 0 2 ((P 0 2) - 1)) 4 (lst b (A.tl b).dropLast) vNONE) 7 b (nI (lst b (A.tl b).dropLast))) (A.la b))) [(4, .int (nI (A.la b * 4 + (A.sz (A.la b) - 1)))), (3, .int (nI (A.la b))), (0, .ref (g 0)), (1, .int (nI b)), (2, .int (nI c))] [] 124
                exact ret (clrP (ps (ps (ps (ps (ps (ps P 1 c (P 1 (A.la b * 4 + (A.sz (A.la b) - 1)))) 2 c (P 2 (A.la b * 4 + (A.sz (A.la b) - 1)))) 3 (A.la b) (nI (A.sz (A.la b) - 1))) 0 2 ((P 0 2) - 1)) 4 (lst b (A.tl b).dropLast) vNONE) 7 b (nI (lst b (A.tl b).dropLast))) (A.la b)) _ _ dX2_takeOut_124 (⟨RC_del2 hr hb h1 hs _, rfl, rfl, rfl⟩)
          · skip
            exact absurd (nI_lt (a := A.la b * 4 + (A.sz (A.la b) - 1)) (b := 512) (by omega) (by decide)) (c5)
      · skip
        exact absurd (nI_lt (a := c) (b := 512) hc (by decide)) (c3)
