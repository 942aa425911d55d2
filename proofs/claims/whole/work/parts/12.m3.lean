/-! made by wip/whole/gen.py and m1.py -/
theorem mX2_find_k37 : Cond.constant RX2 37 (-2000000005) ∈ wsX2_find := List.mem_of_getElem? (i := 4) rfl
theorem mX2_find_inX3_isPage : Cond.initialized yX3_isPage.cls ∈ wsX2_find := List.mem_of_getElem? (i := 14) rfl
theorem mX2_find_stX3_isPage : Cond.static yX3_isPage ∈ wsX2_find := List.mem_of_getElem? (i := 13) rfl
theorem mX2_find_f21 : Cond.fieldLink RX2 21 (TX2 3).1 (TX2 3).2.1 (TX2 3).2.2.1 ∈ wsX2_find := List.mem_of_getElem? (i := 3) rfl
theorem iX2_find_X2 : ∀ w ∈ wsX20, w ∈ wsX2_find := by decide +kernel
theorem mX2_find_f18 : Cond.fieldLink RX2 18 (TX2 2).1 (TX2 2).2.1 (TX2 2).2.2.1 ∈ wsX2_find := List.mem_of_getElem? (i := 1) rfl
theorem mX2_find_f9 : Cond.fieldLink RX2 9 (TX2 0).1 (TX2 0).2.1 (TX2 0).2.2.1 ∈ wsX2_find := List.mem_of_getElem? (i := 2) rfl
set_option maxHeartbeats 1600000 in
set_option maxRecDepth 20000 in
theorem c_X2_find (l : Launch) (D : va_G) (cy cz : ClassId) (g : Nat → Nat) (z0 : Nat) (P : Mem) (A : AS) (key : Int32) (hr : RP A P) : MId l yX2_find wsX2_find (rmF 1 36) D (tyL cy cz) [.ref (g 0), .int key] (wG cy g z0 P) (ocI (A.fnd key)) (wG cy g z0 P) := by
  refine g_entI (cc := cX2_find) (maxL := 5) (own := RX2) (by decide) rfl rfl (Nat.le_of_ble_eq_true rfl) (fun x C ret => ?_)
  show G x l (rmF 1 36) D 5 0 0 (wG cy g z0 P) [(0, .ref (g 0)), (1, .int key)] [] 0
  refine g_aload_n C dX2_find_0 0 rfl rfl ?_
  refine g_iload_n C dX2_find_1 1 rfl rfl ?_
  refine g_callIV C [0, 1, 2, 3, 4, 5, 6, 7] [] [0, 1, 2, 3, 4, 5, 6, 7] 0 2 (b := g 0) rfl rfl (As := [.int key]) (rest := []) (wr := ([] : va_W)) (wf := fun _ => (wG cy g z0 P)) dX2_find_2 gX2_find_X2_addressOf rfl dmX2_addressOf ⟨rfl, rfl, Nat.le_of_ble_eq_true rfl, Nat.le_of_ble_eq_true rfl, Nat.zero_le _, Nat.zero_le _⟩ (c_X2_addressOf l D cy cz g z0 P A.L A.S key hr.2.2.1 hr.2.2.2 hr.2.1.1 hr.S64) ⟨rfl, rfl, rfl, rfl, by decide, rfl, fun _ => rfl⟩ (Nat.le_of_ble_eq_true rfl) ?_
  rintro _ - rfl
  show G x l (rmF 1 36) D 5 0 0 (wG cy g z0 P) [(0, .ref (g 0)), (1, .int key)] [.int (nI (adr A.L A.S key))] 5
  refine g_top (b := nI (A.ad key)) (rfl) ?_
  refine g_istore_n C (lv' := [(2, .int (nI (A.ad key))), (0, .ref (g 0)), (1, .int key)]) dX2_find_5 rfl (by decide) rfl ?_
  refine g_iconst C (v := 0) dX2_find_6 (by decide) ?_
  refine g_istore_n C (lv' := [(3, .int 0), (2, .int (nI (A.ad key))), (0, .ref (g 0)), (1, .int key)]) dX2_find_7 rfl (by decide) rfl ?_
  refine g_lv (lv' := [(2, .int (nI (A.ad key))), (3, .int 0), (0, .ref (g 0)), (1, .int key)]) [1, 0, 2, 3] rfl ?_
  refine g_loop (σ := List Nat × Nat) (fun (a : List Nat × Nat) => match a with | (r, d) => (wG cy g z0 P)) (fun (a : List Nat × Nat) => match a with | (r, d) => [(2, .int (hdI r)), (3, .int (nI d)), (0, .ref (g 0)), (1, .int key)]) (fun (a : List Nat × Nat) => match a with | (r, d) => (isCh (P 4) r) ∧ (r.length + d ≤ 65) ∧ (A.fnd key = fndL A.sz A.ks key r)) (fun (a : List Nat × Nat) => match a with | (r, d) => r.length) ?_ (A.ch (A.ad key), 0) (⟨hr.1.chain (hr.adlt key), hr.1.len (hr.adlt key), rfl⟩)
  intro a hI ih
  obtain ⟨r, d⟩ := a
  obtain ⟨i1, i2, i3⟩ : (isCh (P 4) r) ∧ (r.length + d ≤ 65) ∧ (A.fnd key = fndL A.sz A.ks key r) := hI
  show G x l (rmF 1 36) D 5 0 0 (wG cy g z0 P) [(2, .int (hdI r)), (3, .int (nI d)), (0, .ref (g 0)), (1, .int key)] [] 8
  rcases r with _ | ⟨q, r⟩
  · skip
    show G x l (rmF 1 36) D 5 0 0 (wG cy g z0 P) [(2, .int vNONE), (3, .int (nI d)), (0, .ref (g 0)), (1, .int key)] [] 8
    refine g_iload_n C dX2_find_8 1 rfl rfl ?_
    refine g_sipush C (v := 128) dX2_find_9 (by decide) ?_
    refine g_icmp_ge C (tgt := 83) dX2_find_12 (by decide) (fun c1 => ?_) (fun c1 => ?_)
    · skip
      refine g_ldc C (v := vNONE) mX2_find_k37 dX2_find_83 ?_
      exact ret _ () _ _ dX2_find_85 (by rw [i3]; rfl)
    · skip
      refine g_iload_n C dX2_find_15 0 rfl rfl ?_
      refine g_callIN C [] [0, 1, 2, 3, 4, 5, 6, 7] [0, 1, 2, 3, 4, 5, 6, 7] (As := [.int vNONE]) (rest := []) (wr := (wG cy g z0 P)) (wf := fun _ => (wG cy g z0 P)) dX2_find_16 gX2_find_X3_isPage_n61 rfl dmX3_isPage ⟨rfl, rfl, Nat.le_of_ble_eq_true rfl, Nat.le_of_ble_eq_true rfl, Nat.zero_le _, Nat.zero_le _⟩ rfl mX2_find_inX3_isPage mX2_find_stX3_isPage (c_X3_isPage l D cy cz vNONE) ⟨rfl, rfl, rfl, rfl, by decide, rfl, fun _ => rfl⟩ (Nat.le_of_ble_eq_true rfl) ?_
      rintro _ - rfl
      show G x l (rmF 1 36) D 5 0 0 (wG cy g z0 P) [(2, .int vNONE), (3, .int (nI d)), (0, .ref (g 0)), (1, .int key)] [.int (inI 128 vNONE)] 19
      refine g_top (b := 0) (inI_NONE _) ?_
      refine g_if_eq C (tgt := 83) dX2_find_19 (by decide) (fun c1 => ?_) (fun c1 => ?_)
      · skip
        refine g_ldc C (v := vNONE) mX2_find_k37 dX2_find_83 ?_
        exact ret _ () _ _ dX2_find_85 (by rw [i3]; rfl)
      · skip
        exact absurd rfl (c1)
  · skip
    obtain ⟨hq, hn, i1⟩ := i1
    have i2 : r.length + 1 + d ≤ 65 := i2
    have hz := hr.1.sz4 hq
    show G x l (rmF 1 36) D 5 0 0 (wG cy g z0 P) [(2, .int (nI q)), (3, .int (nI d)), (0, .ref (g 0)), (1, .int key)] [] 8
    refine g_iload_n C dX2_find_8 1 rfl rfl ?_
    refine g_sipush C (v := 128) dX2_find_9 (by decide) ?_
    refine g_icmp_ge C (tgt := 83) dX2_find_12 (by decide) (fun c2 => ?_) (fun c2 => ?_)
    · skip
      exact absurd c2 (nI_ge (a := d) (b := 128) (by omega) (by decide))
    · skip
      refine g_iload_n C dX2_find_15 0 rfl rfl ?_
      refine g_callIN C [] [0, 1, 2, 3, 4, 5, 6, 7] [0, 1, 2, 3, 4, 5, 6, 7] (As := [.int (nI q)]) (rest := []) (wr := (wG cy g z0 P)) (wf := fun _ => (wG cy g z0 P)) dX2_find_16 gX2_find_X3_isPage_n61 rfl dmX3_isPage ⟨rfl, rfl, Nat.le_of_ble_eq_true rfl, Nat.le_of_ble_eq_true rfl, Nat.zero_le _, Nat.zero_le _⟩ rfl mX2_find_inX3_isPage mX2_find_stX3_isPage (c_X3_isPage l D cy cz (nI q)) ⟨rfl, rfl, rfl, rfl, by decide, rfl, fun _ => rfl⟩ (Nat.le_of_ble_eq_true rfl) ?_
      rintro _ - rfl
      show G x l (rmF 1 36) D 5 0 0 (wG cy g z0 P) [(2, .int (nI q)), (3, .int (nI d)), (0, .ref (g 0)), (1, .int key)] [.int (inI 128 (nI q))] 19
      refine g_top (b := 1) (inI_nI (N := 128) hq (by decide)) ?_
      refine g_if_eq C (tgt := 83) dX2_find_19 (by decide) (fun c1 => ?_) (fun c1 => ?_)
      · skip
        exact absurd c1 (by decide)
      · skip
        refine g_iconst C (v := 0) dX2_find_22 (by decide) ?_
        refine g_istore C (lv' := [(4, .int 0), (2, .int (nI q)), (3, .int (nI d)), (0, .ref (g 0)), (1, .int key)]) dX2_find_23 (by decide) rfl ?_
        refine g_loop (σ := Nat) (fun (a : Nat) => match a with | i => (wG cy g z0 P)) (fun (a : Nat) => match a with | i => [(4, .int (nI i)), (2, .int (nI q)), (3, .int (nI d)), (0, .ref (g 0)), (1, .int key)]) (fun (a : Nat) => match a with | i => (i ≤ A.sz q) ∧ (A.fnd key = match fndI A.ks key q (A.sz q - i) i with | some c => some c | none => fndL A.sz A.ks key r)) (fun (a : Nat) => match a with | i => A.sz q - i) ?_ 0 (⟨Nat.zero_le _, i3⟩)
        intro a hI ih2
        obtain ⟨i, rfl⟩ : ∃ z, z = a := ⟨_, rfl⟩
        obtain ⟨k1, k2⟩ : (i ≤ A.sz q) ∧ (A.fnd key = match fndI A.ks key q (A.sz q - i) i with | some c => some c | none => fndL A.sz A.ks key r) := hI
        show G x l (rmF 1 36) D 5 0 0 (wG cy g z0 P) [(4, .int (nI i)), (2, .int (nI q)), (3, .int (nI d)), (0, .ref (g 0)), (1, .int key)] [] 25
        refine g_iload C dX2_find_25 0 rfl ?_
        refine g_iconst C (v := 4) dX2_find_27 (by decide) ?_
        refine g_icmp_ge C (tgt := 70) dX2_find_28 (by decide) (fun c3 => ?_) (fun c3 => ?_)
        · skip
          have h3 : 4 ≤ i := (nI_leI (a := 4) (b := i) (by decide) (by omega)).mp c3
          have e1 : A.fnd key = fndL A.sz A.ks key r := by rw [k2, show A.sz q - i = 0 by omega]; rfl
          refine g_aload_n C dX2_find_70 3 rfl rfl ?_
          refine g_get C 0 (f := 3) (v := .ref (g 4)) (Cn := RX2) (T := TX2) (N := 11) dX2_find_71 rfl rfl iX2_find_X2 (by decide) mX2_find_f21 rfl ?_
          refine g_iload_n C dX2_find_74 1 rfl rfl ?_
          refine g_iald C 4 0 (f := P 4) (N := 128) q dX2_find_75 rfl rfl (by decide) (rfl) (by omega) ?_
          refine g_top (b := hdI r) (hn) ?_
          refine g_istore_n C (lv' := [(2, .int (hdI r)), (4, .int (nI i)), (3, .int (nI d)), (0, .ref (g 0)), (1, .int key)]) dX2_find_76 rfl (by decide) rfl ?_
          refine g_iinc C (q := 2) (v := nI (d + 1)) (lv' := [(3, .int (nI (d + 1))), (2, .int (hdI r)), (4, .int (nI i)), (0, .ref (g 0)), (1, .int key)]) dX2_find_77 rfl (nI_1 d) (by decide) rfl ?_
          refine g_goto C (tgt := 8) dX2_find_80 (by decide) ?_
          refine g_lv (lv' := [(2, .int (hdI r)), (3, .int (nI (d + 1))), (0, .ref (g 0)), (1, .int key)]) [1, 0, 3, 4] rfl ?_
          exact ih (r, d + 1) ⟨i1, by omega, e1⟩ (Nat.lt_succ_self _)
        · skip
          refine g_iload C dX2_find_31 0 rfl ?_
          refine g_aload_n C dX2_find_33 3 rfl rfl ?_
          refine g_get C 0 (f := 2) (v := .ref (g 3)) (Cn := RX2) (T := TX2) (N := 11) dX2_find_34 rfl rfl iX2_find_X2 (by decide) mX2_find_f18 rfl ?_
          refine g_iload_n C dX2_find_37 1 rfl rfl ?_
          refine g_iald C 3 0 (f := P 3) (N := 128) q dX2_find_38 rfl rfl (by decide) (rfl) (by omega) ?_
          refine g_top (b := nI (A.sz q)) (hr.1.used hq) ?_
          refine g_icmp_ge C (tgt := 70) dX2_find_39 (by decide) (fun c4 => ?_) (fun c4 => ?_)
          · skip
            have h3 : A.sz q ≤ i := (nI_leI (by omega) (by omega)).mp c4
            have e1 : A.fnd key = fndL A.sz A.ks key r := by rw [k2, show A.sz q - i = 0 by omega]; rfl
            refine g_aload_n C dX2_find_70 3 rfl rfl ?_
            refine g_get C 0 (f := 3) (v := .ref (g 4)) (Cn := RX2) (T := TX2) (N := 11) dX2_find_71 rfl rfl iX2_find_X2 (by decide) mX2_find_f21 rfl ?_
            refine g_iload_n C dX2_find_74 1 rfl rfl ?_
            refine g_iald C 4 0 (f := P 4) (N := 128) q dX2_find_75 rfl rfl (by decide) (rfl) (by omega) ?_
            refine g_top (b := hdI r) (hn) ?_
            refine g_istore_n C (lv' := [(2, .int (hdI r)), (4, .int (nI i)), (3, .int (nI d)), (0, .ref (g 0)), (1, .int key)]) dX2_find_76 rfl (by decide) rfl ?_
            refine g_iinc C (q := 2) (v := nI (d + 1)) (lv' := [(3, .int (nI (d + 1))), (2, .int (hdI r)), (4, .int (nI i)), (0, .ref (g 0)), (1, .int key)]) dX2_find_77 rfl (nI_1 d) (by decide) rfl ?_
            refine g_goto C (tgt := 8) dX2_find_80 (by decide) ?_
            refine g_lv (lv' := [(2, .int (hdI r)), (3, .int (nI (d + 1))), (0, .ref (g 0)), (1, .int key)]) [1, 0, 3, 4] rfl ?_
            exact ih (r, d + 1) ⟨i1, by omega, e1⟩ (Nat.lt_succ_self _)
          · skip
            have h3 : i < A.sz q := Nat.lt_of_not_le (fun w => c4 (nI_le w (by omega)))
            refine g_aload_n C dX2_find_42 3 rfl rfl ?_
            refine g_get C 0 (f := 0) (v := .ref (g 1)) (Cn := RX2) (T := TX2) (N := 11) dX2_find_43 rfl rfl iX2_find_X2 (by decide) mX2_find_f9 rfl ?_
            refine g_iload_n C dX2_find_46 1 rfl rfl ?_
            refine g_iconst C (v := 4) dX2_find_47 (by decide) ?_
            refine g_imul C dX2_find_48 ?_
            refine g_top (b := nI (q * 4)) (pk_mul q 4) ?_
            refine g_iload C dX2_find_49 0 rfl ?_
            refine g_iadd C dX2_find_51 ?_
            refine g_top (b := nI (q * 4 + i)) (nI_add _ _) ?_
            refine g_iald C 1 0 (f := P 1) (N := 512) (q * 4 + i) dX2_find_52 rfl rfl (by decide) (rfl) (by omega) ?_
            refine g_top (b := A.ks (q * 4 + i)) (hr.1.key hq h3) ?_
            refine g_iload_n C dX2_find_53 4 rfl rfl ?_
            refine g_icmp_ne C (tgt := 64) dX2_find_54 (by decide) (fun c5 => ?_) (fun c5 => ?_)
            · skip
              refine g_iinc C (q := 0) (v := nI (i + 1)) (lv' := [(4, .int (nI (i + 1))), (2, .int (nI q)), (3, .int (nI d)), (0, .ref (g 0)), (1, .int key)]) dX2_find_64 rfl (nI_1 i) (by decide) rfl ?_
              refine g_goto C (tgt := 25) dX2_find_67 (by decide) ?_
              exact ih2 (i + 1) ⟨by omega, by rw [k2, fndI_miss h3 c5]⟩ (by show A.sz q - (i + 1) < A.sz q - i; omega)
            · skip
              refine g_iload_n C dX2_find_57 1 rfl rfl ?_
              refine g_iconst C (v := 4) dX2_find_58 (by decide) ?_
              refine g_imul C dX2_find_59 ?_
              refine g_top (b := nI (q * 4)) (pk_mul q 4) ?_
              refine g_iload C dX2_find_60 0 rfl ?_
              refine g_iadd C dX2_find_62 ?_
              refine g_top (b := nI (q * 4 + i)) (nI_add _ _) ?_
              exact ret _ () _ _ dX2_find_63 (by rw [k2, fndI_hit h3 c5]; rfl)

theorem mX2_pagesLookedAt_inX3_isPage : Cond.initialized yX3_isPage.cls ∈ wsX2_pagesLookedAt := List.mem_of_getElem? (i := 12) rfl
theorem mX2_pagesLookedAt_stX3_isPage : Cond.static yX3_isPage ∈ wsX2_pagesLookedAt := List.mem_of_getElem? (i := 11) rfl
theorem mX2_pagesLookedAt_k37 : Cond.constant RX2 37 (-2000000005) ∈ wsX2_pagesLookedAt := List.mem_of_getElem? (i := 1) rfl
theorem mX2_pagesLookedAt_f21 : Cond.fieldLink RX2 21 (TX2 3).1 (TX2 3).2.1 (TX2 3).2.2.1 ∈ wsX2_pagesLookedAt := List.mem_of_getElem? (i := 2) rfl
theorem iX2_pagesLookedAt_X2 : ∀ w ∈ wsX20, w ∈ wsX2_pagesLookedAt := by decide +kernel
set_option maxHeartbeats 1600000 in
set_option maxRecDepth 20000 in
theorem c_X2_pagesLookedAt (l : Launch) (D : va_G) (cy cz : ClassId) (g : Nat → Nat) (z0 : Nat) (P : Mem) (A : AS) (key : Int32) (o : Option Nat) (hr : RP A P) (ho : ∀ c, o = some c → c < 512) : MId l yX2_pagesLookedAt wsX2_pagesLookedAt (rmF 1 36) D (tyL cy cz) [.ref (g 0), .int key, .int (ocI o)] (wG cy g z0 P) (nI (lookL o (A.ch (A.ad key)))) (wG cy g z0 P) := by
  refine g_entI (cc := cX2_pagesLookedAt) (maxL := 5) (own := RX2) (by decide) rfl rfl (Nat.le_of_ble_eq_true rfl) (fun x C ret => ?_)
  show G x l (rmF 1 36) D 5 0 0 (wG cy g z0 P) [(0, .ref (g 0)), (1, .int key), (2, .int (ocI o))] [] 0
  rcases o with _ | c0
  · skip
    show G x l (rmF 1 36) D 5 0 0 (wG cy g z0 P) [(0, .ref (g 0)), (1, .int key), (2, .int vNONE)] [] 0
    refine g_aload_n C dX2_pagesLookedAt_0 0 rfl rfl ?_
    refine g_iload_n C dX2_pagesLookedAt_1 1 rfl rfl ?_
    refine g_callIV C [0, 1, 2, 3, 4, 5, 6, 7] [] [0, 1, 2, 3, 4, 5, 6, 7] 0 2 (b := g 0) rfl rfl (As := [.int key]) (rest := []) (wr := ([] : va_W)) (wf := fun _ => (wG cy g z0 P)) dX2_pagesLookedAt_2 gX2_pagesLookedAt_X2_addressOf rfl dmX2_addressOf ⟨rfl, rfl, Nat.le_of_ble_eq_true rfl, Nat.le_of_ble_eq_true rfl, Nat.zero_le _, Nat.zero_le _⟩ (c_X2_addressOf l D cy cz g z0 P A.L A.S key hr.2.2.1 hr.2.2.2 hr.2.1.1 hr.S64) ⟨rfl, rfl, rfl, rfl, by decide, rfl, fun _ => rfl⟩ (Nat.le_of_ble_eq_true rfl) ?_
    rintro _ - rfl
    show G x l (rmF 1 36) D 5 0 0 (wG cy g z0 P) [(0, .ref (g 0)), (1, .int key), (2, .int vNONE)] [.int (nI (adr A.L A.S key))] 5
    refine g_top (b := nI (A.ad key)) (rfl) ?_
    refine g_istore_n C (lv' := [(3, .int (nI (A.ad key))), (0, .ref (g 0)), (1, .int key), (2, .int vNONE)]) dX2_pagesLookedAt_5 rfl (by decide) rfl ?_
    refine g_iconst C (v := 0) dX2_pagesLookedAt_6 (by decide) ?_
    refine g_istore C (lv' := [(4, .int 0), (3, .int (nI (A.ad key))), (0, .ref (g 0)), (1, .int key), (2, .int vNONE)]) dX2_pagesLookedAt_7 (by decide) rfl ?_
    refine g_lv (lv' := [(3, .int (nI (A.ad key))), (4, .int 0), (0, .ref (g 0)), (1, .int key), (2, .int vNONE)]) [1, 0, 2, 3, 4] rfl ?_
    refine g_loop (σ := List Nat × Nat) (fun (a : List Nat × Nat) => match a with | (r, d) => (wG cy g z0 P)) (fun (a : List Nat × Nat) => match a with | (r, d) => [(3, .int (hdI r)), (4, .int (nI d)), (0, .ref (g 0)), (1, .int key), (2, .int vNONE)]) (fun (a : List Nat × Nat) => match a with | (r, d) => (isCh (P 4) r) ∧ (r.length + d ≤ 65) ∧ (lookL none (A.ch (A.ad key)) = d + lookL none r)) (fun (a : List Nat × Nat) => match a with | (r, d) => r.length) ?_ (A.ch (A.ad key), 0) (⟨hr.1.chain (hr.adlt key), hr.1.len (hr.adlt key), (Nat.zero_add _).symm⟩)
    intro a hI ih
    obtain ⟨r, d⟩ := a
    obtain ⟨i1, i2, i3⟩ : (isCh (P 4) r) ∧ (r.length + d ≤ 65) ∧ (lookL none (A.ch (A.ad key)) = d + lookL none r) := hI
    show G x l (rmF 1 36) D 5 0 0 (wG cy g z0 P) [(3, .int (hdI r)), (4, .int (nI d)), (0, .ref (g 0)), (1, .int key), (2, .int vNONE)] [] 9
    rcases r with _ | ⟨q, r⟩
    · skip
      show G x l (rmF 1 36) D 5 0 0 (wG cy g z0 P) [(3, .int vNONE), (4, .int (nI d)), (0, .ref (g 0)), (1, .int key), (2, .int vNONE)] [] 9
      refine g_iload C dX2_pagesLookedAt_9 1 rfl ?_
      refine g_sipush C (v := 128) dX2_pagesLookedAt_11 (by decide) ?_
      refine g_icmp_ge C (tgt := 53) dX2_pagesLookedAt_14 (by decide) (fun c1 => ?_) (fun c1 => ?_)
      · skip
        refine g_iload C dX2_pagesLookedAt_53 1 rfl ?_
        exact ret _ () _ _ dX2_pagesLookedAt_55 (by rw [i3]; rfl)
      · skip
        refine g_iload_n C dX2_pagesLookedAt_17 0 rfl rfl ?_
        refine g_callIN C [] [0, 1, 2, 3, 4, 5, 6, 7] [0, 1, 2, 3, 4, 5, 6, 7] (As := [.int vNONE]) (rest := []) (wr := (wG cy g z0 P)) (wf := fun _ => (wG cy g z0 P)) dX2_pagesLookedAt_18 gX2_pagesLookedAt_X3_isPage_n61 rfl dmX3_isPage ⟨rfl, rfl, Nat.le_of_ble_eq_true rfl, Nat.le_of_ble_eq_true rfl, Nat.zero_le _, Nat.zero_le _⟩ rfl mX2_pagesLookedAt_inX3_isPage mX2_pagesLookedAt_stX3_isPage (c_X3_isPage l D cy cz vNONE) ⟨rfl, rfl, rfl, rfl, by decide, rfl, fun _ => rfl⟩ (Nat.le_of_ble_eq_true rfl) ?_
        rintro _ - rfl
        show G x l (rmF 1 36) D 5 0 0 (wG cy g z0 P) [(3, .int vNONE), (4, .int (nI d)), (0, .ref (g 0)), (1, .int key), (2, .int vNONE)] [.int (inI 128 vNONE)] 21
        refine g_top (b := 0) (inI_NONE _) ?_
        refine g_if_eq C (tgt := 53) dX2_pagesLookedAt_21 (by decide) (fun c1 => ?_) (fun c1 => ?_)
        · skip
          refine g_iload C dX2_pagesLookedAt_53 1 rfl ?_
          exact ret _ () _ _ dX2_pagesLookedAt_55 (by rw [i3]; rfl)
        · skip
          exact absurd rfl (c1)
    · skip
      obtain ⟨hq, hn, i1⟩ := i1
      have i2 : r.length + 1 + d ≤ 65 := i2
      have i3 : lookL none (A.ch (A.ad key)) = d + (1 + lookL none r) := i3
      show G x l (rmF 1 36) D 5 0 0 (wG cy g z0 P) [(3, .int (nI q)), (4, .int (nI d)), (0, .ref (g 0)), (1, .int key), (2, .int vNONE)] [] 9
      refine g_iload C dX2_pagesLookedAt_9 1 rfl ?_
      refine g_sipush C (v := 128) dX2_pagesLookedAt_11 (by decide) ?_
      refine g_icmp_ge C (tgt := 53) dX2_pagesLookedAt_14 (by decide) (fun c2 => ?_) (fun c2 => ?_)
      · skip
        exact absurd c2 (nI_ge (a := d) (b := 128) (by omega) (by decide))
      · skip
        refine g_iload_n C dX2_pagesLookedAt_17 0 rfl rfl ?_
        refine g_callIN C [] [0, 1, 2, 3, 4, 5, 6, 7] [0, 1, 2, 3, 4, 5, 6, 7] (As := [.int (nI q)]) (rest := []) (wr := (wG cy g z0 P)) (wf := fun _ => (wG cy g z0 P)) dX2_pagesLookedAt_18 gX2_pagesLookedAt_X3_isPage_n61 rfl dmX3_isPage ⟨rfl, rfl, Nat.le_of_ble_eq_true rfl, Nat.le_of_ble_eq_true rfl, Nat.zero_le _, Nat.zero_le _⟩ rfl mX2_pagesLookedAt_inX3_isPage mX2_pagesLookedAt_stX3_isPage (c_X3_isPage l D cy cz (nI q)) ⟨rfl, rfl, rfl, rfl, by decide, rfl, fun _ => rfl⟩ (Nat.le_of_ble_eq_true rfl) ?_
        rintro _ - rfl
        show G x l (rmF 1 36) D 5 0 0 (wG cy g z0 P) [(3, .int (nI q)), (4, .int (nI d)), (0, .ref (g 0)), (1, .int key), (2, .int vNONE)] [.int (inI 128 (nI q))] 21
        refine g_top (b := 1) (inI_nI (N := 128) hq (by decide)) ?_
        refine g_if_eq C (tgt := 53) dX2_pagesLookedAt_21 (by decide) (fun c1 => ?_) (fun c1 => ?_)
        · skip
          exact absurd c1 (by decide)
        · skip
          refine g_iinc C (q := 1) (v := nI (d + 1)) (lv' := [(4, .int (nI (d + 1))), (3, .int (nI q)), (0, .ref (g 0)), (1, .int key), (2, .int vNONE)]) dX2_pagesLookedAt_24 rfl (nI_1 d) (by decide) rfl ?_
          refine g_iload_n C dX2_pagesLookedAt_27 4 rfl rfl ?_
          refine g_ldc C (v := vNONE) mX2_pagesLookedAt_k37 dX2_pagesLookedAt_28 ?_
          refine g_icmp_eq C (tgt := 43) dX2_pagesLookedAt_30 (by decide) (fun c3 => ?_) (fun c3 => ?_)
          · skip
            refine g_aload_n C dX2_pagesLookedAt_43 2 rfl rfl ?_
            refine g_get C 0 (f := 3) (v := .ref (g 4)) (Cn := RX2) (T := TX2) (N := 11) dX2_pagesLookedAt_44 rfl rfl iX2_pagesLookedAt_X2 (by decide) mX2_pagesLookedAt_f21 rfl ?_
            refine g_iload_n C dX2_pagesLookedAt_47 1 rfl rfl ?_
            refine g_iald C 4 0 (f := P 4) (N := 128) q dX2_pagesLookedAt_48 rfl rfl (by decide) (rfl) (by omega) ?_
            refine g_top (b := hdI r) (hn) ?_
            refine g_istore_n C (lv' := [(3, .int (hdI r)), (4, .int (nI (d + 1))), (0, .ref (g 0)), (1, .int key), (2, .int vNONE)]) dX2_pagesLookedAt_49 rfl (by decide) rfl ?_
            refine g_goto C (tgt := 9) dX2_pagesLookedAt_50 (by decide) ?_
            exact ih (r, d + 1) ⟨i1, by omega, by omega⟩ (Nat.lt_succ_self _)
          · skip
            exact absurd rfl (c3)
  · skip
    have h0 : c0 < 512 := ho c0 rfl
    show G x l (rmF 1 36) D 5 0 0 (wG cy g z0 P) [(0, .ref (g 0)), (1, .int key), (2, .int (nI c0))] [] 0
    refine g_aload_n C dX2_pagesLookedAt_0 0 rfl rfl ?_
    refine g_iload_n C dX2_pagesLookedAt_1 1 rfl rfl ?_
    refine g_callIV C [0, 1, 2, 3, 4, 5, 6, 7] [] [0, 1, 2, 3, 4, 5, 6, 7] 0 2 (b := g 0) rfl rfl (As := [.int key]) (rest := []) (wr := ([] : va_W)) (wf := fun _ => (wG cy g z0 P)) dX2_pagesLookedAt_2 gX2_pagesLookedAt_X2_addressOf rfl dmX2_addressOf ⟨rfl, rfl, Nat.le_of_ble_eq_true rfl, Nat.le_of_ble_eq_true rfl, Nat.zero_le _, Nat.zero_le _⟩ (c_X2_addressOf l D cy cz g z0 P A.L A.S key hr.2.2.1 hr.2.2.2 hr.2.1.1 hr.S64) ⟨rfl, rfl, rfl, rfl, by decide, rfl, fun _ => rfl⟩ (Nat.le_of_ble_eq_true rfl) ?_
    rintro _ - rfl
    show G x l (rmF 1 36) D 5 0 0 (wG cy g z0 P) [(0, .ref (g 0)), (1, .int key), (2, .int (nI c0))] [.int (nI (adr A.L A.S key))] 5
    refine g_top (b := nI (A.ad key)) (rfl) ?_
    refine g_istore_n C (lv' := [(3, .int (nI (A.ad key))), (0, .ref (g 0)), (1, .int key), (2, .int (nI c0))]) dX2_pagesLookedAt_5 rfl (by decide) rfl ?_
    refine g_iconst C (v := 0) dX2_pagesLookedAt_6 (by decide) ?_
    refine g_istore C (lv' := [(4, .int 0), (3, .int (nI (A.ad key))), (0, .ref (g 0)), (1, .int key), (2, .int (nI c0))]) dX2_pagesLookedAt_7 (by decide) rfl ?_
    refine g_lv (lv' := [(3, .int (nI (A.ad key))), (4, .int 0), (0, .ref (g 0)), (1, .int key), (2, .int (nI c0))]) [1, 0, 2, 3, 4] rfl ?_
    refine g_loop (σ := List Nat × Nat) (fun (a : List Nat × Nat) => match a with | (r, d) => (wG cy g z0 P)) (fun (a : List Nat × Nat) => match a with | (r, d) => [(3, .int (hdI r)), (4, .int (nI d)), (0, .ref (g 0)), (1, .int key), (2, .int (nI c0))]) (fun (a : List Nat × Nat) => match a with | (r, d) => (isCh (P 4) r) ∧ (r.length + d ≤ 65) ∧ (lookL (some c0) (A.ch (A.ad key)) = d + lookL (some c0) r)) (fun (a : List Nat × Nat) => match a with | (r, d) => r.length) ?_ (A.ch (A.ad key), 0) (⟨hr.1.chain (hr.adlt key), hr.1.len (hr.adlt key), (Nat.zero_add _).symm⟩)
    intro a hI ih
    obtain ⟨r, d⟩ := a
    obtain ⟨i1, i2, i3⟩ : (isCh (P 4) r) ∧ (r.length + d ≤ 65) ∧ (lookL (some c0) (A.ch (A.ad key)) = d + lookL (some c0) r) := hI
    show G x l (rmF 1 36) D 5 0 0 (wG cy g z0 P) [(3, .int (hdI r)), (4, .int (nI d)), (0, .ref (g 0)), (1, .int key), (2, .int (nI c0))] [] 9
    rcases r with _ | ⟨q, r⟩
    · skip
      show G x l (rmF 1 36) D 5 0 0 (wG cy g z0 P) [(3, .int vNONE), (4, .int (nI d)), (0, .ref (g 0)), (1, .int key), (2, .int (nI c0))] [] 9
      refine g_iload C dX2_pagesLookedAt_9 1 rfl ?_
      refine g_sipush C (v := 128) dX2_pagesLookedAt_11 (by decide) ?_
      refine g_icmp_ge C (tgt := 53) dX2_pagesLookedAt_14 (by decide) (fun c2 => ?_) (fun c2 => ?_)
      · skip
        refine g_iload C dX2_pagesLookedAt_53 1 rfl ?_
        exact ret _ () _ _ dX2_pagesLookedAt_55 (by rw [i3]; rfl)
      · skip
        refine g_iload_n C dX2_pagesLookedAt_17 0 rfl rfl ?_
        refine g_callIN C [] [0, 1, 2, 3, 4, 5, 6, 7] [0, 1, 2, 3, 4, 5, 6, 7] (As := [.int vNONE]) (rest := []) (wr := (wG cy g z0 P)) (wf := fun _ => (wG cy g z0 P)) dX2_pagesLookedAt_18 gX2_pagesLookedAt_X3_isPage_n61 rfl dmX3_isPage ⟨rfl, rfl, Nat.le_of_ble_eq_true rfl, Nat.le_of_ble_eq_true rfl, Nat.zero_le _, Nat.zero_le _⟩ rfl mX2_pagesLookedAt_inX3_isPage mX2_pagesLookedAt_stX3_isPage (c_X3_isPage l D cy cz vNONE) ⟨rfl, rfl, rfl, rfl, by decide, rfl, fun _ => rfl⟩ (Nat.le_of_ble_eq_true rfl) ?_
        rintro _ - rfl
        show G x l (rmF 1 36) D 5 0 0 (wG cy g z0 P) [(3, .int vNONE), (4, .int (nI d)), (0, .ref (g 0)), (1, .int key), (2, .int (nI c0))] [.int (inI 128 vNONE)] 21
        refine g_top (b := 0) (inI_NONE _) ?_
        refine g_if_eq C (tgt := 53) dX2_pagesLookedAt_21 (by decide) (fun c1 => ?_) (fun c1 => ?_)
        · skip
          refine g_iload C dX2_pagesLookedAt_53 1 rfl ?_
          exact ret _ () _ _ dX2_pagesLookedAt_55 (by rw [i3]; rfl)
        · skip
          exact absurd rfl (c1)
    · skip
      obtain ⟨hq, hn, i1⟩ := i1
      have i2 : r.length + 1 + d ≤ 65 := i2
      have i3 : lookL (some c0) (A.ch (A.ad key)) = d + (if q = c0 / 4 then 1 else 1 + lookL (some c0) r) := i3
      show G x l (rmF 1 36) D 5 0 0 (wG cy g z0 P) [(3, .int (nI q)), (4, .int (nI d)), (0, .ref (g 0)), (1, .int key), (2, .int (nI c0))] [] 9
      refine g_iload C dX2_pagesLookedAt_9 1 rfl ?_
      refine g_sipush C (v := 128) dX2_pagesLookedAt_11 (by decide) ?_
      refine g_icmp_ge C (tgt := 53) dX2_pagesLookedAt_14 (by decide) (fun c2 => ?_) (fun c2 => ?_)
      · skip
        exact absurd c2 (nI_ge (a := d) (b := 128) (by omega) (by decide))
      · skip
        refine g_iload_n C dX2_pagesLookedAt_17 0 rfl rfl ?_
        refine g_callIN C [] [0, 1, 2, 3, 4, 5, 6, 7] [0, 1, 2, 3, 4, 5, 6, 7] (As := [.int (nI q)]) (rest := []) (wr := (wG cy g z0 P)) (wf := fun _ => (wG cy g z0 P)) dX2_pagesLookedAt_18 gX2_pagesLookedAt_X3_isPage_n61 rfl dmX3_isPage ⟨rfl, rfl, Nat.le_of_ble_eq_true rfl, Nat.le_of_ble_eq_true rfl, Nat.zero_le _, Nat.zero_le _⟩ rfl mX2_pagesLookedAt_inX3_isPage mX2_pagesLookedAt_stX3_isPage (c_X3_isPage l D cy cz (nI q)) ⟨rfl, rfl, rfl, rfl, by decide, rfl, fun _ => rfl⟩ (Nat.le_of_ble_eq_true rfl) ?_
        rintro _ - rfl
        show G x l (rmF 1 36) D 5 0 0 (wG cy g z0 P) [(3, .int (nI q)), (4, .int (nI d)), (0, .ref (g 0)), (1, .int key), (2, .int (nI c0))] [.int (inI 128 (nI q))] 21
        refine g_top (b := 1) (inI_nI (N := 128) hq (by decide)) ?_
        refine g_if_eq C (tgt := 53) dX2_pagesLookedAt_21 (by decide) (fun c1 => ?_) (fun c1 => ?_)
        · skip
          exact absurd c1 (by decide)
        · skip
          refine g_iinc C (q := 1) (v := nI (d + 1)) (lv' := [(4, .int (nI (d + 1))), (3, .int (nI q)), (0, .ref (g 0)), (1, .int key), (2, .int (nI c0))]) dX2_pagesLookedAt_24 rfl (nI_1 d) (by decide) rfl ?_
          refine g_iload_n C dX2_pagesLookedAt_27 4 rfl rfl ?_
          refine g_ldc C (v := vNONE) mX2_pagesLookedAt_k37 dX2_pagesLookedAt_28 ?_
          refine g_icmp_eq C (tgt := 43) dX2_pagesLookedAt_30 (by decide) (fun c3 => ?_) (fun c3 => ?_)
          · skip
            exact absurd c3 (NONE_nI (by omega))
          · skip
            refine g_iload_n C dX2_pagesLookedAt_33 1 rfl rfl ?_
            refine g_iload_n C dX2_pagesLookedAt_34 4 rfl rfl ?_
            refine g_iconst C (v := 4) dX2_pagesLookedAt_35 (by decide) ?_
            refine g_idiv C dX2_pagesLookedAt_36 (by decide) ?_
            refine g_top (b := nI (c0 / 4)) (pk_div (by omega) (by decide) (by decide)) ?_
            refine g_icmp_ne C (tgt := 43) dX2_pagesLookedAt_37 (by decide) (fun c4 => ?_) (fun c4 => ?_)
            · skip
              refine g_aload_n C dX2_pagesLookedAt_43 2 rfl rfl ?_
              refine g_get C 0 (f := 3) (v := .ref (g 4)) (Cn := RX2) (T := TX2) (N := 11) dX2_pagesLookedAt_44 rfl rfl iX2_pagesLookedAt_X2 (by decide) mX2_pagesLookedAt_f21 rfl ?_
              refine g_iload_n C dX2_pagesLookedAt_47 1 rfl rfl ?_
              refine g_iald C 4 0 (f := P 4) (N := 128) q dX2_pagesLookedAt_48 rfl rfl (by decide) (rfl) (by omega) ?_
              refine g_top (b := hdI r) (hn) ?_
              refine g_istore_n C (lv' := [(3, .int (hdI r)), (4, .int (nI (d + 1))), (0, .ref (g 0)), (1, .int key), (2, .int (nI c0))]) dX2_pagesLookedAt_49 rfl (by decide) rfl ?_
              refine g_goto C (tgt := 9) dX2_pagesLookedAt_50 (by decide) ?_
              exact ih (r, d + 1) ⟨i1, by omega, by rw [i3, if_neg (fun w => c4 (by rw [w]))]; omega⟩ (Nat.lt_succ_self _)
            · skip
              refine g_iload C dX2_pagesLookedAt_40 0 rfl ?_
              exact ret _ () _ _ dX2_pagesLookedAt_42 (by rw [i3, if_pos ((nI_eq (by omega) (by omega)).mp c4)])

theorem mX2_hasRoomFor_k37 : Cond.constant RX2 37 (-2000000005) ∈ wsX2_hasRoomFor := List.mem_of_getElem? (i := 1) rfl
set_option maxHeartbeats 1600000 in
set_option maxRecDepth 20000 in
theorem c_X2_hasRoomFor (l : Launch) (D : va_G) (cy cz : ClassId) (g : Nat → Nat) (z0 : Nat) (P : Mem) (A : AS) (key : Int32) (hr : RP A P) : MId l yX2_hasRoomFor wsX2_hasRoomFor (rmF 2 72) D (tyL cy cz) [.ref (g 0), .int key] (wG cy g z0 P) (if A.sz (A.la (A.ad key)) < 4 ∨ ¬ A.lf = none then 1 else 0) (wG cy g z0 P) := by
  refine g_entZ (cc := cX2_hasRoomFor) (maxL := 2) (own := RX2) (by decide) rfl rfl (Nat.le_of_ble_eq_true rfl) (fun x C ret => ?_)
  show G x l (rmF 2 72) D 2 0 0 (wG cy g z0 P) [(0, .ref (g 0)), (1, .int key)] [] 0
  refine g_aload_n C dX2_hasRoomFor_0 0 rfl rfl ?_
  refine g_aload_n C dX2_hasRoomFor_1 0 rfl rfl ?_
  refine g_aload_n C dX2_hasRoomFor_2 0 rfl rfl ?_
  refine g_iload_n C dX2_hasRoomFor_3 1 rfl rfl ?_
  refine g_callIV C [0, 1, 2, 3, 4, 5, 6, 7] [] [0, 1, 2, 3, 4, 5, 6, 7] 0 2 (b := g 0) rfl rfl (As := [.int key]) (rest := [.ref (g 0), .ref (g 0)]) (wr := ([] : va_W)) (wf := fun _ => (wG cy g z0 P)) dX2_hasRoomFor_4 gX2_hasRoomFor_X2_addressOf rfl dmX2_addressOf ⟨rfl, rfl, Nat.le_of_ble_eq_true rfl, Nat.le_of_ble_eq_true rfl, Nat.zero_le _, Nat.zero_le _⟩ (c_X2_addressOf l D cy cz g z0 P A.L A.S key hr.2.2.1 hr.2.2.2 hr.2.1.1 hr.S64) ⟨rfl, rfl, rfl, rfl, by decide, rfl, fun _ => rfl⟩ (Nat.le_of_ble_eq_true rfl) ?_
  rintro _ - rfl
  show G x l (rmF 2 72) D 2 0 0 (wG cy g z0 P) [(0, .ref (g 0)), (1, .int key)] [.int (nI (adr A.L A.S key)), .ref (g 0), .ref (g 0)] 7
  refine g_top (b := nI (A.ad key)) (rfl) ?_
  refine g_callIV C [0, 1, 2, 3, 4, 5, 6, 7] [] [0, 1, 2, 3, 4, 5, 6, 7] 0 2 (b := g 0) rfl rfl (As := [.int (nI (A.ad key))]) (rest := [.ref (g 0)]) (wr := ([] : va_W)) (wf := fun _ => (wG cy g z0 P)) dX2_hasRoomFor_7 gX2_hasRoomFor_X2_lastPage rfl dmX2_lastPage ⟨rfl, rfl, Nat.le_of_ble_eq_true rfl, Nat.le_of_ble_eq_true rfl, Nat.zero_le _, Nat.zero_le _⟩ (c_X2_lastPage l D cy cz g z0 P (A.ad key) (hr.adlt key)) ⟨rfl, rfl, rfl, rfl, by decide, rfl, fun _ => rfl⟩ (Nat.le_of_ble_eq_true rfl) ?_
  rintro _ - rfl
  show G x l (rmF 2 72) D 2 0 0 (wG cy g z0 P) [(0, .ref (g 0)), (1, .int key)] [.int (P 7 (A.ad key)), .ref (g 0)] 10
  refine g_top (b := nI (A.la (A.ad key))) (hr.1.last (hr.adlt key)) ?_
  refine g_callIV C [0, 1, 2, 3, 4, 5, 6, 7] [] [0, 1, 2, 3, 4, 5, 6, 7] 0 2 (b := g 0) rfl rfl (As := [.int (nI (A.la (A.ad key)))]) (rest := []) (wr := ([] : va_W)) (wf := fun _ => (wG cy g z0 P)) dX2_hasRoomFor_10 gX2_hasRoomFor_X2_entriesOnPage rfl dmX2_entriesOnPage ⟨rfl, rfl, Nat.le_of_ble_eq_true rfl, Nat.le_of_ble_eq_true rfl, Nat.zero_le _, Nat.zero_le _⟩ (c_X2_entriesOnPage l D cy cz g z0 P (A.la (A.ad key)) (hr.1.la (hr.adlt key))) ⟨rfl, rfl, rfl, rfl, by decide, rfl, fun _ => rfl⟩ (Nat.le_of_ble_eq_true rfl) ?_
  rintro _ - rfl
  show G x l (rmF 2 72) D 2 0 0 (wG cy g z0 P) [(0, .ref (g 0)), (1, .int key)] [.int (P 3 (A.la (A.ad key)))] 13
  refine g_top (b := nI (A.sz (A.la (A.ad key)))) (hr.1.used (hr.1.la (hr.adlt key))) ?_
  refine g_iconst C (v := 4) dX2_hasRoomFor_13 (by decide) ?_
  refine g_icmp_lt C (tgt := 26) dX2_hasRoomFor_14 (by decide) (fun c1 => ?_) (fun c1 => ?_)
  · skip
    have hz := hr.1.sz4 (hr.1.la (hr.adlt key))
    have h1 : A.sz (A.la (A.ad key)) < 4 := (nI_ltI (b := 4) (by omega) (by decide)).mp c1
    refine g_iconst C (v := 1) dX2_hasRoomFor_26 (by decide) ?_
    refine g_goto C (tgt := 31) dX2_hasRoomFor_27 (by decide) ?_
    exact ret _ () _ _ dX2_hasRoomFor_31 (by decide) (by rw [if_pos (Or.inl h1)])
  · skip
    have hz := hr.1.sz4 (hr.1.la (hr.adlt key))
    have h1 : ¬ A.sz (A.la (A.ad key)) < 4 := fun w => c1 (nI_lt w (by decide))
    refine g_aload_n C dX2_hasRoomFor_17 0 rfl rfl ?_
    refine g_callIV C [0, 1, 2, 3, 4, 5, 6, 7] [] [0, 1, 2, 3, 4, 5, 6, 7] 0 2 (b := g 0) rfl rfl (As := []) (rest := []) (wr := ([] : va_W)) (wf := fun _ => (wG cy g z0 P)) dX2_hasRoomFor_18 gX2_hasRoomFor_X2_leastFreePage rfl dmX2_leastFreePage ⟨rfl, rfl, Nat.le_of_ble_eq_true rfl, Nat.le_of_ble_eq_true rfl, Nat.zero_le _, Nat.zero_le _⟩ (c_X2_leastFreePage l D cy cz g z0 P A hr.1) ⟨rfl, rfl, rfl, rfl, by decide, rfl, fun _ => rfl⟩ (Nat.le_of_ble_eq_true rfl) ?_
    rintro _ - rfl
    show G x l (rmF 2 72) D 2 0 0 (wG cy g z0 P) [(0, .ref (g 0)), (1, .int key)] [.int (ocI A.lf)] 21
    refine g_ldc C (v := vNONE) mX2_hasRoomFor_k37 dX2_hasRoomFor_21 ?_
    refine g_icmp_eq C (tgt := 30) dX2_hasRoomFor_23 (by decide) (fun c2 => ?_) (fun c2 => ?_)
    · skip
      refine g_iconst C (v := 0) dX2_hasRoomFor_30 (by decide) ?_
      exact ret _ () _ _ dX2_hasRoomFor_31 (by decide) (by rw [if_neg (fun w => w.elim h1 (fun v => v (ocI_none (AS_lf A) c2)))])
    · skip
      refine g_iconst C (v := 1) dX2_hasRoomFor_26 (by decide) ?_
      refine g_goto C (tgt := 31) dX2_hasRoomFor_27 (by decide) ?_
      exact ret _ () _ _ dX2_hasRoomFor_31 (by decide) (by rw [if_pos (Or.inr (fun v => c2 (by rw [v]; rfl)))])

theorem mX2_longestChain_l82 : Cond.methodLink RX2 82 Lib.Math.max.name ∈ wsX2_longestChain := List.mem_of_getElem? (i := 1) rfl
theorem mX2_longestChain_s82 : Cond.static Lib.Math.max.name ∈ wsX2_longestChain := List.mem_of_getElem? (i := 2) rfl
theorem mX2_longestChain_i82 : Cond.initialized "java/lang/Math" ∈ wsX2_longestChain := List.mem_of_getElem? (i := 3) rfl
theorem mX2_longestChain_c82 : Cond.code Lib.Math.max.name Lib.Math.max.code 2 (some .int) ∈ wsX2_longestChain := List.mem_of_getElem? (i := 4) rfl
set_option maxHeartbeats 1600000 in
set_option maxRecDepth 20000 in
theorem c_X2_longestChain (l : Launch) (D : va_G) (cy cz : ClassId) (g : Nat → Nat) (z0 : Nat) (P : Mem) (A : AS) (hr : RP A P) : MId l yX2_longestChain wsX2_longestChain (rmF 2 72) D (tyL cy cz) [.ref (g 0)] (wG cy g z0 P) (nI A.lng) (wG cy g z0 P) := by
  refine g_entI (cc := cX2_longestChain) (maxL := 3) (own := RX2) (by decide) rfl rfl (Nat.le_of_ble_eq_true rfl) (fun x C ret => ?_)
  show G x l (rmF 2 72) D 3 0 0 (wG cy g z0 P) [(0, .ref (g 0))] [] 0
  refine g_iconst C (v := 0) dX2_longestChain_0 (by decide) ?_
  refine g_istore_n C (lv' := [(1, .int 0), (0, .ref (g 0))]) dX2_longestChain_1 rfl (by decide) rfl ?_
  refine g_iconst C (v := 0) dX2_longestChain_2 (by decide) ?_
  refine g_istore_n C (lv' := [(2, .int 0), (1, .int 0), (0, .ref (g 0))]) dX2_longestChain_3 rfl (by decide) rfl ?_
  refine g_lv (lv' := [(1, .int 0), (2, .int 0), (0, .ref (g 0))]) [1, 0, 2] rfl ?_
  refine g_loop (σ := Nat × Nat) (fun (a : Nat × Nat) => match a with | (b, n) => (wG cy g z0 P)) (fun (a : Nat × Nat) => match a with | (b, n) => [(1, .int (nI n)), (2, .int (nI b)), (0, .ref (g 0))]) (fun (a : Nat × Nat) => match a with | (b, n) => (b ≤ A.nb) ∧ (n ≤ 65) ∧ (A.lng = mxF (fun b => (A.tl b).length + 1) (A.nb - b) b n)) (fun (a : Nat × Nat) => match a with | (b, n) => A.nb - b) ?_ (0, 0) (⟨Nat.zero_le _, by decide, rfl⟩)
  intro a hI ih
  obtain ⟨b, n⟩ := a
  obtain ⟨i1, i2, i3⟩ : (b ≤ A.nb) ∧ (n ≤ 65) ∧ (A.lng = mxF (fun b => (A.tl b).length + 1) (A.nb - b) b n) := hI
  show G x l (rmF 2 72) D 3 0 0 (wG cy g z0 P) [(1, .int (nI n)), (2, .int (nI b)), (0, .ref (g 0))] [] 4
  refine g_iload_n C dX2_longestChain_4 1 rfl rfl ?_
  refine g_aload_n C dX2_longestChain_5 2 rfl rfl ?_
  refine g_callIV C [0, 1, 2, 3, 4, 5, 6, 7] [] [0, 1, 2, 3, 4, 5, 6, 7] 0 2 (b := g 0) rfl rfl (As := []) (rest := [.int (nI b)]) (wr := ([] : va_W)) (wf := fun _ => (wG cy g z0 P)) dX2_longestChain_6 gX2_longestChain_X2_bucketCount rfl dmX2_bucketCount ⟨rfl, rfl, Nat.le_of_ble_eq_true rfl, Nat.le_of_ble_eq_true rfl, Nat.zero_le _, Nat.zero_le _⟩ (c_X2_bucketCount l D cy cz g z0 P) ⟨rfl, rfl, rfl, rfl, by decide, rfl, fun _ => rfl⟩ (Nat.le_of_ble_eq_true rfl) ?_
  rintro _ - rfl
  show G x l (rmF 2 72) D 3 0 0 (wG cy g z0 P) [(1, .int (nI n)), (2, .int (nI b)), (0, .ref (g 0))] [.int ((4 <<< (P 0 0 &&& 31)) + P 0 1), .int (nI b)] 9
  refine g_top (b := nI A.nb) (hr.nb) ?_
  refine g_icmp_ge C (tgt := 28) dX2_longestChain_9 (by decide) (fun c1 => ?_) (fun c1 => ?_)
  · skip
    refine g_iload_n C dX2_longestChain_28 0 rfl rfl ?_
    exact ret _ () _ _ dX2_longestChain_29 (by rw [i3, show A.nb - b = 0 by have := (nI_leI (by have := hr.nb64; omega) (by have := hr.nb64; omega)).mp c1; omega]; rfl)
  · skip
    have hb : b < A.nb := Nat.lt_of_not_le (fun w => c1 (nI_le w (by have := hr.nb64; omega)))
    have h64 : b < 64 := by have := hr.nb64; omega
    have hln := hr.1.1.len h64
    refine g_iload_n C dX2_longestChain_12 0 rfl rfl ?_
    refine g_aload_n C dX2_longestChain_13 2 rfl rfl ?_
    refine g_iload_n C dX2_longestChain_14 1 rfl rfl ?_
    refine g_callIV C [0, 1, 2, 3, 4, 5, 6, 7] [] [0, 1, 2, 3, 4, 5, 6, 7] 0 2 (b := g 0) rfl rfl (As := [.int (nI b)]) (rest := [.int (nI n)]) (wr := ([] : va_W)) (wf := fun _ => (wG cy g z0 P)) dX2_longestChain_15 gX2_longestChain_X2_pagesInChain rfl dmX2_pagesInChain ⟨rfl, rfl, Nat.le_of_ble_eq_true rfl, Nat.le_of_ble_eq_true rfl, Nat.zero_le _, Nat.zero_le _⟩ (c_X2_pagesInChain l D cy cz g z0 P b (A.tl b) (hr.1.chain h64) (by have := hr.1.1.len h64; omega)) ⟨rfl, rfl, rfl, rfl, by decide, rfl, fun _ => rfl⟩ (Nat.le_of_ble_eq_true rfl) ?_
    rintro _ - rfl
    show G x l (rmF 2 72) D 3 0 0 (wG cy g z0 P) [(1, .int (nI n)), (2, .int (nI b)), (0, .ref (g 0))] [.int (nI ((A.tl b).length + 1)), .int (nI n)] 18
    refine g_max C dX2_longestChain_18 mX2_longestChain_l82 mX2_longestChain_s82 mX2_longestChain_i82 mX2_longestChain_c82 (Nat.le_of_ble_eq_true rfl) (Nat.le_of_ble_eq_true rfl) (Nat.zero_le _) (Nat.zero_le _) ?_
    refine g_top (b := nI (if n < (A.tl b).length + 1 then (A.tl b).length + 1 else n)) (by rw [← nI_ite]; simp only [nI_ltI (show n < 2 ^ 31 by omega) (show (A.tl b).length + 1 < 2 ^ 31 by omega)]) ?_
    refine g_istore_n C (lv' := [(1, .int (nI (if n < (A.tl b).length + 1 then (A.tl b).length + 1 else n))), (2, .int (nI b)), (0, .ref (g 0))]) dX2_longestChain_21 rfl (by decide) rfl ?_
    refine g_iinc C (q := 1) (v := nI (b + 1)) (lv' := [(2, .int (nI (b + 1))), (1, .int (nI (if n < (A.tl b).length + 1 then (A.tl b).length + 1 else n))), (0, .ref (g 0))]) dX2_longestChain_22 rfl (nI_1 b) (by decide) rfl ?_
    refine g_goto C (tgt := 4) dX2_longestChain_25 (by decide) ?_
    refine g_lv (lv' := [(1, .int (nI (if n < (A.tl b).length + 1 then (A.tl b).length + 1 else n))), (2, .int (nI (b + 1))), (0, .ref (g 0))]) [1, 0, 2] rfl ?_
    exact ih (b + 1, if n < (A.tl b).length + 1 then (A.tl b).length + 1 else n) ⟨by omega, by split <;> omega, by rw [i3, mxF_step hb]⟩ (by show A.nb - (b + 1) < A.nb - b; omega)

theorem mX2_effortForAll_inX3_isPage : Cond.initialized yX3_isPage.cls ∈ wsX2_effortForAll := List.mem_of_getElem? (i := 11) rfl
theorem mX2_effortForAll_stX3_isPage : Cond.static yX3_isPage ∈ wsX2_effortForAll := List.mem_of_getElem? (i := 10) rfl
theorem mX2_effortForAll_f18 : Cond.fieldLink RX2 18 (TX2 2).1 (TX2 2).2.1 (TX2 2).2.2.1 ∈ wsX2_effortForAll := List.mem_of_getElem? (i := 1) rfl
theorem iX2_effortForAll_X2 : ∀ w ∈ wsX20, w ∈ wsX2_effortForAll := by decide +kernel
theorem mX2_effortForAll_f21 : Cond.fieldLink RX2 21 (TX2 3).1 (TX2 3).2.1 (TX2 3).2.2.1 ∈ wsX2_effortForAll := List.mem_of_getElem? (i := 2) rfl
set_option maxHeartbeats 1600000 in
set_option maxRecDepth 20000 in
theorem c_X2_effortForAll (l : Launch) (D : va_G) (cy cz : ClassId) (g : Nat → Nat) (z0 : Nat) (P : Mem) (A : AS) (hr : RP A P) : MId l yX2_effortForAll wsX2_effortForAll (rmF 1 36) D (tyL cy cz) [.ref (g 0)] (wG cy g z0 P) (nI A.eff) (wG cy g z0 P) := by
  refine g_entI (cc := cX2_effortForAll) (maxL := 5) (own := RX2) (by decide) rfl rfl (Nat.le_of_ble_eq_true rfl) (fun x C ret => ?_)
  show G x l (rmF 1 36) D 5 0 0 (wG cy g z0 P) [(0, .ref (g 0))] [] 0
  refine g_iconst C (v := 0) dX2_effortForAll_0 (by decide) ?_
  refine g_istore_n C (lv' := [(1, .int 0), (0, .ref (g 0))]) dX2_effortForAll_1 rfl (by decide) rfl ?_
  refine g_iconst C (v := 0) dX2_effortForAll_2 (by decide) ?_
  refine g_istore_n C (lv' := [(2, .int 0), (1, .int 0), (0, .ref (g 0))]) dX2_effortForAll_3 rfl (by decide) rfl ?_
  refine g_lv (lv' := [(1, .int 0), (2, .int 0), (0, .ref (g 0))]) [1, 0, 2] rfl ?_
  refine g_loop (σ := Nat × Nat) (fun (a : Nat × Nat) => match a with | (b, n) => (wG cy g z0 P)) (fun (a : Nat × Nat) => match a with | (b, n) => [(1, .int (nI n)), (2, .int (nI b)), (0, .ref (g 0))]) (fun (a : Nat × Nat) => match a with | (b, n) => (b ≤ A.nb) ∧ (A.eff = n + smF (fun b => effL A.sz 1 (A.ch b)) (A.nb - b) b)) (fun (a : Nat × Nat) => match a with | (b, n) => A.nb - b) ?_ (0, 0) (⟨Nat.zero_le _, (Nat.zero_add _).symm⟩)
  intro a hI ih
  obtain ⟨b, n⟩ := a
  obtain ⟨i1, i3⟩ : (b ≤ A.nb) ∧ (A.eff = n + smF (fun b => effL A.sz 1 (A.ch b)) (A.nb - b) b) := hI
  show G x l (rmF 1 36) D 5 0 0 (wG cy g z0 P) [(1, .int (nI n)), (2, .int (nI b)), (0, .ref (g 0))] [] 4
  refine g_iload_n C dX2_effortForAll_4 1 rfl rfl ?_
  refine g_aload_n C dX2_effortForAll_5 2 rfl rfl ?_
  refine g_callIV C [0, 1, 2, 3, 4, 5, 6, 7] [] [0, 1, 2, 3, 4, 5, 6, 7] 0 2 (b := g 0) rfl rfl (As := []) (rest := [.int (nI b)]) (wr := ([] : va_W)) (wf := fun _ => (wG cy g z0 P)) dX2_effortForAll_6 gX2_effortForAll_X2_bucketCount rfl dmX2_bucketCount ⟨rfl, rfl, Nat.le_of_ble_eq_true rfl, Nat.le_of_ble_eq_true rfl, Nat.zero_le _, Nat.zero_le _⟩ (c_X2_bucketCount l D cy cz g z0 P) ⟨rfl, rfl, rfl, rfl, by decide, rfl, fun _ => rfl⟩ (Nat.le_of_ble_eq_true rfl) ?_
  rintro _ - rfl
  show G x l (rmF 1 36) D 5 0 0 (wG cy g z0 P) [(1, .int (nI n)), (2, .int (nI b)), (0, .ref (g 0))] [.int ((4 <<< (P 0 0 &&& 31)) + P 0 1), .int (nI b)] 9
  refine g_top (b := nI A.nb) (hr.nb) ?_
  refine g_icmp_ge C (tgt := 63) dX2_effortForAll_9 (by decide) (fun c1 => ?_) (fun c1 => ?_)
  · skip
    refine g_iload_n C dX2_effortForAll_63 0 rfl rfl ?_
    exact ret _ () _ _ dX2_effortForAll_64 (by rw [i3, show A.nb - b = 0 by have := (nI_leI (by have := hr.nb64; omega) (by have := hr.nb64; omega)).mp c1; omega]; rfl)
  · skip
    have hb : b < A.nb := Nat.lt_of_not_le (fun w => c1 (nI_le w (by have := hr.nb64; omega)))
    have h64 : b < 64 := by have := hr.nb64; omega
    refine g_iload_n C dX2_effortForAll_12 1 rfl rfl ?_
    refine g_istore_n C (lv' := [(3, .int (nI b)), (1, .int (nI n)), (2, .int (nI b)), (0, .ref (g 0))]) dX2_effortForAll_13 rfl (by decide) rfl ?_
    refine g_iconst C (v := 1) dX2_effortForAll_14 (by decide) ?_
    refine g_istore C (lv' := [(4, .int 1), (3, .int (nI b)), (1, .int (nI n)), (2, .int (nI b)), (0, .ref (g 0))]) dX2_effortForAll_15 (by decide) rfl ?_
    refine g_lv (lv' := [(1, .int (nI n)), (3, .int (nI b)), (4, .int 1), (2, .int (nI b)), (0, .ref (g 0))]) [2, 1, 0, 3, 4] rfl ?_
    refine g_loop (σ := List Nat × Nat × Nat) (fun (a : List Nat × Nat × Nat) => match a with | (r, k, e) => (wG cy g z0 P)) (fun (a : List Nat × Nat × Nat) => match a with | (r, k, e) => [(1, .int (nI e)), (3, .int (hdI r)), (4, .int (nI k)), (2, .int (nI b)), (0, .ref (g 0))]) (fun (a : List Nat × Nat × Nat) => match a with | (r, k, e) => (isCh (P 4) r) ∧ (r.length + k ≤ 66) ∧ (A.eff = e + (effL A.sz k r + smF (fun b => effL A.sz 1 (A.ch b)) (A.nb - (b + 1)) (b + 1)))) (fun (a : List Nat × Nat × Nat) => match a with | (r, k, e) => r.length) ?_ (A.ch b, 1, n) (⟨hr.1.chain h64, by have := hr.1.len h64; omega, by rw [i3, smF_step hb]⟩)
    intro a hI ih2
    obtain ⟨r, k, e⟩ := a
    obtain ⟨j1, j2, j3⟩ : (isCh (P 4) r) ∧ (r.length + k ≤ 66) ∧ (A.eff = e + (effL A.sz k r + smF (fun b => effL A.sz 1 (A.ch b)) (A.nb - (b + 1)) (b + 1))) := hI
    show G x l (rmF 1 36) D 5 0 0 (wG cy g z0 P) [(1, .int (nI e)), (3, .int (hdI r)), (4, .int (nI k)), (2, .int (nI b)), (0, .ref (g 0))] [] 17
    rcases r with _ | ⟨q, r⟩
    · skip
      have j3 : A.eff = e + (0 + smF (fun b => effL A.sz 1 (A.ch b)) (A.nb - (b + 1)) (b + 1)) := j3
      rw [Nat.zero_add] at j3
      show G x l (rmF 1 36) D 5 0 0 (wG cy g z0 P) [(1, .int (nI e)), (3, .int vNONE), (4, .int (nI k)), (2, .int (nI b)), (0, .ref (g 0))] [] 17
      refine g_iload C dX2_effortForAll_17 2 rfl ?_
      refine g_sipush C (v := 128) dX2_effortForAll_19 (by decide) ?_
      refine g_icmp_gt C (tgt := 57) dX2_effortForAll_22 (by decide) (fun c1 => ?_) (fun c1 => ?_)
      · skip
        refine g_iinc C (q := 3) (v := nI (b + 1)) (lv' := [(2, .int (nI (b + 1))), (1, .int (nI e)), (3, .int vNONE), (4, .int (nI k)), (0, .ref (g 0))]) dX2_effortForAll_57 rfl (nI_1 b) (by decide) rfl ?_
        refine g_goto C (tgt := 4) dX2_effortForAll_60 (by decide) ?_
        refine g_lv (lv' := [(1, .int (nI e)), (2, .int (nI (b + 1))), (0, .ref (g 0))]) [1, 0, 4] rfl ?_
        exact ih (b + 1, e) ⟨by omega, by rw [j3]⟩ (by show A.nb - (b + 1) < A.nb - b; omega)
      · skip
        refine g_iload_n C dX2_effortForAll_25 1 rfl rfl ?_
        refine g_callIN C [] [0, 1, 2, 3, 4, 5, 6, 7] [0, 1, 2, 3, 4, 5, 6, 7] (As := [.int vNONE]) (rest := []) (wr := (wG cy g z0 P)) (wf := fun _ => (wG cy g z0 P)) dX2_effortForAll_26 gX2_effortForAll_X3_isPage_n61 rfl dmX3_isPage ⟨rfl, rfl, Nat.le_of_ble_eq_true rfl, Nat.le_of_ble_eq_true rfl, Nat.zero_le _, Nat.zero_le _⟩ rfl mX2_effortForAll_inX3_isPage mX2_effortForAll_stX3_isPage (c_X3_isPage l D cy cz vNONE) ⟨rfl, rfl, rfl, rfl, by decide, rfl, fun _ => rfl⟩ (Nat.le_of_ble_eq_true rfl) ?_
        rintro _ - rfl
        show G x l (rmF 1 36) D 5 0 0 (wG cy g z0 P) [(1, .int (nI e)), (3, .int vNONE), (4, .int (nI k)), (2, .int (nI b)), (0, .ref (g 0))] [.int (inI 128 vNONE)] 29
        refine g_top (b := 0) (inI_NONE _) ?_
        refine g_if_eq C (tgt := 57) dX2_effortForAll_29 (by decide) (fun c3 => ?_) (fun c3 => ?_)
        · skip
          refine g_iinc C (q := 3) (v := nI (b + 1)) (lv' := [(2, .int (nI (b + 1))), (1, .int (nI e)), (3, .int vNONE), (4, .int (nI k)), (0, .ref (g 0))]) dX2_effortForAll_57 rfl (nI_1 b) (by decide) rfl ?_
          refine g_goto C (tgt := 4) dX2_effortForAll_60 (by decide) ?_
          refine g_lv (lv' := [(1, .int (nI e)), (2, .int (nI (b + 1))), (0, .ref (g 0))]) [1, 0, 4] rfl ?_
          exact ih (b + 1, e) ⟨by omega, by rw [j3]⟩ (by show A.nb - (b + 1) < A.nb - b; omega)
        · skip
          exact absurd rfl (c3)
    · skip
      obtain ⟨hq, hn, j1⟩ := j1
      have j2 : r.length + 1 + k ≤ 66 := j2
      have j3 : A.eff = e + (k * A.sz q + effL A.sz (k + 1) r + smF (fun b => effL A.sz 1 (A.ch b)) (A.nb - (b + 1)) (b + 1)) := j3
      show G x l (rmF 1 36) D 5 0 0 (wG cy g z0 P) [(1, .int (nI e)), (3, .int (nI q)), (4, .int (nI k)), (2, .int (nI b)), (0, .ref (g 0))] [] 17
      refine g_iload C dX2_effortForAll_17 2 rfl ?_
      refine g_sipush C (v := 128) dX2_effortForAll_19 (by decide) ?_
      refine g_icmp_gt C (tgt := 57) dX2_effortForAll_22 (by decide) (fun c2 => ?_) (fun c2 => ?_)
      · skip
        exact absurd c2 (fun w => absurd ((nI_ltI (a := 128) (b := k) (by decide) (by omega)).mp w) (by omega))
      · skip
        refine g_iload_n C dX2_effortForAll_25 1 rfl rfl ?_
        refine g_callIN C [] [0, 1, 2, 3, 4, 5, 6, 7] [0, 1, 2, 3, 4, 5, 6, 7] (As := [.int (nI q)]) (rest := []) (wr := (wG cy g z0 P)) (wf := fun _ => (wG cy g z0 P)) dX2_effortForAll_26 gX2_effortForAll_X3_isPage_n61 rfl dmX3_isPage ⟨rfl, rfl, Nat.le_of_ble_eq_true rfl, Nat.le_of_ble_eq_true rfl, Nat.zero_le _, Nat.zero_le _⟩ rfl mX2_effortForAll_inX3_isPage mX2_effortForAll_stX3_isPage (c_X3_isPage l D cy cz (nI q)) ⟨rfl, rfl, rfl, rfl, by decide, rfl, fun _ => rfl⟩ (Nat.le_of_ble_eq_true rfl) ?_
        rintro _ - rfl
        show G x l (rmF 1 36) D 5 0 0 (wG cy g z0 P) [(1, .int (nI e)), (3, .int (nI q)), (4, .int (nI k)), (2, .int (nI b)), (0, .ref (g 0))] [.int (inI 128 (nI q))] 29
        refine g_top (b := 1) (inI_nI (N := 128) hq (by decide)) ?_
        refine g_if_eq C (tgt := 57) dX2_effortForAll_29 (by decide) (fun c3 => ?_) (fun c3 => ?_)
        · skip
          exact absurd c3 (by decide)
        · skip
          refine g_iload_n C dX2_effortForAll_32 0 rfl rfl ?_
          refine g_iload C dX2_effortForAll_33 2 rfl ?_
          refine g_aload_n C dX2_effortForAll_35 4 rfl rfl ?_
          refine g_get C 0 (f := 2) (v := .ref (g 3)) (Cn := RX2) (T := TX2) (N := 11) dX2_effortForAll_36 rfl rfl iX2_effortForAll_X2 (by decide) mX2_effortForAll_f18 rfl ?_
          refine g_iload_n C dX2_effortForAll_39 1 rfl rfl ?_
          refine g_iald C 3 0 (f := P 3) (N := 128) q dX2_effortForAll_40 rfl rfl (by decide) (rfl) (by omega) ?_
          refine g_top (b := nI (A.sz q)) (hr.1.used hq) ?_
          refine g_imul C dX2_effortForAll_41 ?_
          refine g_top (b := nI (k * A.sz q)) (pk_mul _ _) ?_
          refine g_iadd C dX2_effortForAll_42 ?_
          refine g_top (b := nI (e + k * A.sz q)) (nI_add _ _) ?_
          refine g_istore_n C (lv' := [(1, .int (nI (e + k * A.sz q))), (3, .int (nI q)), (4, .int (nI k)), (2, .int (nI b)), (0, .ref (g 0))]) dX2_effortForAll_43 rfl (by decide) rfl ?_
          refine g_aload_n C dX2_effortForAll_44 4 rfl rfl ?_
          refine g_get C 0 (f := 3) (v := .ref (g 4)) (Cn := RX2) (T := TX2) (N := 11) dX2_effortForAll_45 rfl rfl iX2_effortForAll_X2 (by decide) mX2_effortForAll_f21 rfl ?_
          refine g_iload_n C dX2_effortForAll_48 1 rfl rfl ?_
          refine g_iald C 4 0 (f := P 4) (N := 128) q dX2_effortForAll_49 rfl rfl (by decide) (rfl) (by omega) ?_
          refine g_top (b := hdI r) (hn) ?_
          refine g_istore_n C (lv' := [(3, .int (hdI r)), (1, .int (nI (e + k * A.sz q))), (4, .int (nI k)), (2, .int (nI b)), (0, .ref (g 0))]) dX2_effortForAll_50 rfl (by decide) rfl ?_
          refine g_iinc C (q := 2) (v := nI (k + 1)) (lv' := [(4, .int (nI (k + 1))), (3, .int (hdI r)), (1, .int (nI (e + k * A.sz q))), (2, .int (nI b)), (0, .ref (g 0))]) dX2_effortForAll_51 rfl (nI_1 k) (by decide) rfl ?_
          refine g_goto C (tgt := 17) dX2_effortForAll_54 (by decide) ?_
          refine g_lv (lv' := [(1, .int (nI (e + k * A.sz q))), (3, .int (hdI r)), (4, .int (nI (k + 1))), (2, .int (nI b)), (0, .ref (g 0))]) [2, 1, 0, 3, 4] rfl ?_
          exact ih2 (r, k + 1, e + k * A.sz q) ⟨j1, by omega, by omega⟩ (Nat.lt_succ_self _)

theorem mX2_cellOfEntry_k37 : Cond.constant RX2 37 (-2000000005) ∈ wsX2_cellOfEntry := List.mem_of_getElem? (i := 3) rfl
theorem mX2_cellOfEntry_inX3_isPage : Cond.initialized yX3_isPage.cls ∈ wsX2_cellOfEntry := List.mem_of_getElem? (i := 12) rfl
theorem mX2_cellOfEntry_stX3_isPage : Cond.static yX3_isPage ∈ wsX2_cellOfEntry := List.mem_of_getElem? (i := 11) rfl
theorem mX2_cellOfEntry_f18 : Cond.fieldLink RX2 18 (TX2 2).1 (TX2 2).2.1 (TX2 2).2.2.1 ∈ wsX2_cellOfEntry := List.mem_of_getElem? (i := 1) rfl
theorem iX2_cellOfEntry_X2 : ∀ w ∈ wsX20, w ∈ wsX2_cellOfEntry := by decide +kernel
theorem mX2_cellOfEntry_f21 : Cond.fieldLink RX2 21 (TX2 3).1 (TX2 3).2.1 (TX2 3).2.2.1 ∈ wsX2_cellOfEntry := List.mem_of_getElem? (i := 2) rfl
set_option maxHeartbeats 1600000 in
set_option maxRecDepth 20000 in
theorem c_X2_cellOfEntry (l : Launch) (D : va_G) (cy cz : ClassId) (g : Nat → Nat) (z0 : Nat) (P : Mem) (A : AS) (i : Nat) (hr : RP A P) (hi : i < 2 ^ 31) : MId l yX2_cellOfEntry wsX2_cellOfEntry (rmF 1 36) D (tyL cy cz) [.ref (g 0), .int (nI i)] (wG cy g z0 P) (ocI (A.ent i)) (wG cy g z0 P) := by
  refine g_entI (cc := cX2_cellOfEntry) (maxL := 6) (own := RX2) (by decide) rfl rfl (Nat.le_of_ble_eq_true rfl) (fun x C ret => ?_)
  show G x l (rmF 1 36) D 6 0 0 (wG cy g z0 P) [(0, .ref (g 0)), (1, .int (nI i))] [] 0
  refine g_iload_n C dX2_cellOfEntry_0 1 rfl rfl ?_
  refine g_istore_n C (lv' := [(2, .int (nI i)), (0, .ref (g 0)), (1, .int (nI i))]) dX2_cellOfEntry_1 rfl (by decide) rfl ?_
  refine g_iconst C (v := 0) dX2_cellOfEntry_2 (by decide) ?_
  refine g_istore_n C (lv' := [(3, .int 0), (2, .int (nI i)), (0, .ref (g 0)), (1, .int (nI i))]) dX2_cellOfEntry_3 rfl (by decide) rfl ?_
  refine g_lv (lv' := [(2, .int (nI i)), (3, .int 0), (0, .ref (g 0)), (1, .int (nI i))]) [1, 0, 2, 3] rfl ?_
  refine g_loop (σ := Nat × Nat) (fun (a : Nat × Nat) => match a with | (b, n) => (wG cy g z0 P)) (fun (a : Nat × Nat) => match a with | (b, n) => [(2, .int (nI n)), (3, .int (nI b)), (0, .ref (g 0)), (1, .int (nI i))]) (fun (a : Nat × Nat) => match a with | (b, n) => (b ≤ A.nb) ∧ (n < 2 ^ 31) ∧ (A.ent i = entL A.sz (pgF A.ch (A.nb - b) b) n)) (fun (a : Nat × Nat) => match a with | (b, n) => A.nb - b) ?_ (0, i) (⟨Nat.zero_le _, hi, rfl⟩)
  intro a hI ih
  obtain ⟨b, n⟩ := a
  obtain ⟨i1, i2, i3⟩ : (b ≤ A.nb) ∧ (n < 2 ^ 31) ∧ (A.ent i = entL A.sz (pgF A.ch (A.nb - b) b) n) := hI
  show G x l (rmF 1 36) D 6 0 0 (wG cy g z0 P) [(2, .int (nI n)), (3, .int (nI b)), (0, .ref (g 0)), (1, .int (nI i))] [] 4
  refine g_iload_n C dX2_cellOfEntry_4 1 rfl rfl ?_
  refine g_aload_n C dX2_cellOfEntry_5 2 rfl rfl ?_
  refine g_callIV C [0, 1, 2, 3, 4, 5, 6, 7] [] [0, 1, 2, 3, 4, 5, 6, 7] 0 2 (b := g 0) rfl rfl (As := []) (rest := [.int (nI b)]) (wr := ([] : va_W)) (wf := fun _ => (wG cy g z0 P)) dX2_cellOfEntry_6 gX2_cellOfEntry_X2_bucketCount rfl dmX2_bucketCount ⟨rfl, rfl, Nat.le_of_ble_eq_true rfl, Nat.le_of_ble_eq_true rfl, Nat.zero_le _, Nat.zero_le _⟩ (c_X2_bucketCount l D cy cz g z0 P) ⟨rfl, rfl, rfl, rfl, by decide, rfl, fun _ => rfl⟩ (Nat.le_of_ble_eq_true rfl) ?_
  rintro _ - rfl
  show G x l (rmF 1 36) D 6 0 0 (wG cy g z0 P) [(2, .int (nI n)), (3, .int (nI b)), (0, .ref (g 0)), (1, .int (nI i))] [.int ((4 <<< (P 0 0 &&& 31)) + P 0 1), .int (nI b)] 9
  refine g_top (b := nI A.nb) (hr.nb) ?_
  refine g_icmp_ge C (tgt := 83) dX2_cellOfEntry_9 (by decide) (fun c1 => ?_) (fun c1 => ?_)
  · skip
    refine g_ldc C (v := vNONE) mX2_cellOfEntry_k37 dX2_cellOfEntry_83 ?_
    exact ret _ () _ _ dX2_cellOfEntry_85 (by rw [i3, show A.nb - b = 0 by have := (nI_leI (by have := hr.nb64; omega) (by have := hr.nb64; omega)).mp c1; omega]; rfl)
  · skip
    have hb : b < A.nb := Nat.lt_of_not_le (fun w => c1 (nI_le w (by have := hr.nb64; omega)))
    have h64 : b < 64 := by have := hr.nb64; omega
    refine g_iload_n C dX2_cellOfEntry_12 1 rfl rfl ?_
    refine g_istore C (lv' := [(4, .int (nI b)), (2, .int (nI n)), (3, .int (nI b)), (0, .ref (g 0)), (1, .int (nI i))]) dX2_cellOfEntry_13 (by decide) rfl ?_
    refine g_iconst C (v := 0) dX2_cellOfEntry_15 (by decide) ?_
    refine g_istore C (lv' := [(5, .int 0), (4, .int (nI b)), (2, .int (nI n)), (3, .int (nI b)), (0, .ref (g 0)), (1, .int (nI i))]) dX2_cellOfEntry_16 (by decide) rfl ?_
    refine g_lv (lv' := [(2, .int (nI n)), (4, .int (nI b)), (5, .int 0), (3, .int (nI b)), (0, .ref (g 0)), (1, .int (nI i))]) [2, 1, 0, 3, 4, 5] rfl ?_
    refine g_loop (σ := List Nat × Nat × Nat) (fun (a : List Nat × Nat × Nat) => match a with | (r, d, e) => (wG cy g z0 P)) (fun (a : List Nat × Nat × Nat) => match a with | (r, d, e) => [(2, .int (nI e)), (4, .int (hdI r)), (5, .int (nI d)), (3, .int (nI b)), (0, .ref (g 0)), (1, .int (nI i))]) (fun (a : List Nat × Nat × Nat) => match a with | (r, d, e) => (isCh (P 4) r) ∧ (r.length + d ≤ 65) ∧ (e < 2 ^ 31) ∧ (A.ent i = entL A.sz (r ++ pgF A.ch (A.nb - (b + 1)) (b + 1)) e)) (fun (a : List Nat × Nat × Nat) => match a with | (r, d, e) => r.length) ?_ (A.ch b, 0, n) (⟨hr.1.chain h64, hr.1.len h64, i2, by rw [i3, pgF_step hb]⟩)
    intro a hI ih2
    obtain ⟨r, d, e⟩ := a
    obtain ⟨j1, j0, j2, j3⟩ : (isCh (P 4) r) ∧ (r.length + d ≤ 65) ∧ (e < 2 ^ 31) ∧ (A.ent i = entL A.sz (r ++ pgF A.ch (A.nb - (b + 1)) (b + 1)) e) := hI
    show G x l (rmF 1 36) D 6 0 0 (wG cy g z0 P) [(2, .int (nI e)), (4, .int (hdI r)), (5, .int (nI d)), (3, .int (nI b)), (0, .ref (g 0)), (1, .int (nI i))] [] 18
    rcases r with _ | ⟨q, r⟩
    · skip
      show G x l (rmF 1 36) D 6 0 0 (wG cy g z0 P) [(2, .int (nI e)), (4, .int vNONE), (5, .int (nI d)), (3, .int (nI b)), (0, .ref (g 0)), (1, .int (nI i))] [] 18
      refine g_iload C dX2_cellOfEntry_18 2 rfl ?_
      refine g_sipush C (v := 128) dX2_cellOfEntry_20 (by decide) ?_
      refine g_icmp_ge C (tgt := 77) dX2_cellOfEntry_23 (by decide) (fun c1 => ?_) (fun c1 => ?_)
      · skip
        refine g_iinc C (q := 3) (v := nI (b + 1)) (lv' := [(3, .int (nI (b + 1))), (2, .int (nI e)), (4, .int vNONE), (5, .int (nI d)), (0, .ref (g 0)), (1, .int (nI i))]) dX2_cellOfEntry_77 rfl (nI_1 b) (by decide) rfl ?_
        refine g_goto C (tgt := 4) dX2_cellOfEntry_80 (by decide) ?_
        refine g_lv (lv' := [(2, .int (nI e)), (3, .int (nI (b + 1))), (0, .ref (g 0)), (1, .int (nI i))]) [1, 0, 4, 5] rfl ?_
        exact ih (b + 1, e) ⟨by omega, j2, j3⟩ (by show A.nb - (b + 1) < A.nb - b; omega)
      · skip
        refine g_iload C dX2_cellOfEntry_26 1 rfl ?_
        refine g_callIN C [] [0, 1, 2, 3, 4, 5, 6, 7] [0, 1, 2, 3, 4, 5, 6, 7] (As := [.int vNONE]) (rest := []) (wr := (wG cy g z0 P)) (wf := fun _ => (wG cy g z0 P)) dX2_cellOfEntry_28 gX2_cellOfEntry_X3_isPage_n61 rfl dmX3_isPage ⟨rfl, rfl, Nat.le_of_ble_eq_true rfl, Nat.le_of_ble_eq_true rfl, Nat.zero_le _, Nat.zero_le _⟩ rfl mX2_cellOfEntry_inX3_isPage mX2_cellOfEntry_stX3_isPage (c_X3_isPage l D cy cz vNONE) ⟨rfl, rfl, rfl, rfl, by decide, rfl, fun _ => rfl⟩ (Nat.le_of_ble_eq_true rfl) ?_
        rintro _ - rfl
        show G x l (rmF 1 36) D 6 0 0 (wG cy g z0 P) [(2, .int (nI e)), (4, .int vNONE), (5, .int (nI d)), (3, .int (nI b)), (0, .ref (g 0)), (1, .int (nI i))] [.int (inI 128 vNONE)] 31
        refine g_top (b := 0) (inI_NONE _) ?_
        refine g_if_eq C (tgt := 77) dX2_cellOfEntry_31 (by decide) (fun c3 => ?_) (fun c3 => ?_)
        · skip
          refine g_iinc C (q := 3) (v := nI (b + 1)) (lv' := [(3, .int (nI (b + 1))), (2, .int (nI e)), (4, .int vNONE), (5, .int (nI d)), (0, .ref (g 0)), (1, .int (nI i))]) dX2_cellOfEntry_77 rfl (nI_1 b) (by decide) rfl ?_
          refine g_goto C (tgt := 4) dX2_cellOfEntry_80 (by decide) ?_
          refine g_lv (lv' := [(2, .int (nI e)), (3, .int (nI (b + 1))), (0, .ref (g 0)), (1, .int (nI i))]) [1, 0, 4, 5] rfl ?_
          exact ih (b + 1, e) ⟨by omega, j2, j3⟩ (by show A.nb - (b + 1) < A.nb - b; omega)
        · skip
          exact absurd rfl (c3)
    · skip
      obtain ⟨hq, hn, j1⟩ := j1
      have j0 : r.length + 1 + d ≤ 65 := j0
      have j3 : A.ent i = if e < A.sz q then some (q * 4 + e) else entL A.sz (r ++ pgF A.ch (A.nb - (b + 1)) (b + 1)) (e - A.sz q) := j3
      have hz := hr.1.sz4 hq
      show G x l (rmF 1 36) D 6 0 0 (wG cy g z0 P) [(2, .int (nI e)), (4, .int (nI q)), (5, .int (nI d)), (3, .int (nI b)), (0, .ref (g 0)), (1, .int (nI i))] [] 18
      refine g_iload C dX2_cellOfEntry_18 2 rfl ?_
      refine g_sipush C (v := 128) dX2_cellOfEntry_20 (by decide) ?_
      refine g_icmp_ge C (tgt := 77) dX2_cellOfEntry_23 (by decide) (fun c2 => ?_) (fun c2 => ?_)
      · skip
        exact absurd c2 (nI_ge (a := d) (b := 128) (by omega) (by decide))
      · skip
        refine g_iload C dX2_cellOfEntry_26 1 rfl ?_
        refine g_callIN C [] [0, 1, 2, 3, 4, 5, 6, 7] [0, 1, 2, 3, 4, 5, 6, 7] (As := [.int (nI q)]) (rest := []) (wr := (wG cy g z0 P)) (wf := fun _ => (wG cy g z0 P)) dX2_cellOfEntry_28 gX2_cellOfEntry_X3_isPage_n61 rfl dmX3_isPage ⟨rfl, rfl, Nat.le_of_ble_eq_true rfl, Nat.le_of_ble_eq_true rfl, Nat.zero_le _, Nat.zero_le _⟩ rfl mX2_cellOfEntry_inX3_isPage mX2_cellOfEntry_stX3_isPage (c_X3_isPage l D cy cz (nI q)) ⟨rfl, rfl, rfl, rfl, by decide, rfl, fun _ => rfl⟩ (Nat.le_of_ble_eq_true rfl) ?_
        rintro _ - rfl
        show G x l (rmF 1 36) D 6 0 0 (wG cy g z0 P) [(2, .int (nI e)), (4, .int (nI q)), (5, .int (nI d)), (3, .int (nI b)), (0, .ref (g 0)), (1, .int (nI i))] [.int (inI 128 (nI q))] 31
        refine g_top (b := 1) (inI_nI (N := 128) hq (by decide)) ?_
        refine g_if_eq C (tgt := 77) dX2_cellOfEntry_31 (by decide) (fun c3 => ?_) (fun c3 => ?_)
        · skip
          exact absurd c3 (by decide)
        · skip
          refine g_iload_n C dX2_cellOfEntry_34 0 rfl rfl ?_
          refine g_aload_n C dX2_cellOfEntry_35 4 rfl rfl ?_
          refine g_get C 0 (f := 2) (v := .ref (g 3)) (Cn := RX2) (T := TX2) (N := 11) dX2_cellOfEntry_36 rfl rfl iX2_cellOfEntry_X2 (by decide) mX2_cellOfEntry_f18 rfl ?_
          refine g_iload C dX2_cellOfEntry_39 1 rfl ?_
          refine g_iald C 3 0 (f := P 3) (N := 128) q dX2_cellOfEntry_41 rfl rfl (by decide) (rfl) (by omega) ?_
          refine g_top (b := nI (A.sz q)) (hr.1.used hq) ?_
          refine g_icmp_ge C (tgt := 52) dX2_cellOfEntry_42 (by decide) (fun c4 => ?_) (fun c4 => ?_)
          · skip
            have h3 : A.sz q ≤ e := (nI_leI (by omega) (by omega)).mp c4
            refine g_iload_n C dX2_cellOfEntry_52 0 rfl rfl ?_
            refine g_aload_n C dX2_cellOfEntry_53 4 rfl rfl ?_
            refine g_get C 0 (f := 2) (v := .ref (g 3)) (Cn := RX2) (T := TX2) (N := 11) dX2_cellOfEntry_54 rfl rfl iX2_cellOfEntry_X2 (by decide) mX2_cellOfEntry_f18 rfl ?_
            refine g_iload C dX2_cellOfEntry_57 1 rfl ?_
            refine g_iald C 3 0 (f := P 3) (N := 128) q dX2_cellOfEntry_59 rfl rfl (by decide) (rfl) (by omega) ?_
            refine g_top (b := nI (A.sz q)) (hr.1.used hq) ?_
            refine g_isub C dX2_cellOfEntry_60 ?_
            refine g_top (b := nI (e - A.sz q)) (pk_sub h3) ?_
            refine g_istore_n C (lv' := [(2, .int (nI (e - A.sz q))), (4, .int (nI q)), (5, .int (nI d)), (3, .int (nI b)), (0, .ref (g 0)), (1, .int (nI i))]) dX2_cellOfEntry_61 rfl (by decide) rfl ?_
            refine g_aload_n C dX2_cellOfEntry_62 4 rfl rfl ?_
            refine g_get C 0 (f := 3) (v := .ref (g 4)) (Cn := RX2) (T := TX2) (N := 11) dX2_cellOfEntry_63 rfl rfl iX2_cellOfEntry_X2 (by decide) mX2_cellOfEntry_f21 rfl ?_
            refine g_iload C dX2_cellOfEntry_66 1 rfl ?_
            refine g_iald C 4 0 (f := P 4) (N := 128) q dX2_cellOfEntry_68 rfl rfl (by decide) (rfl) (by omega) ?_
            refine g_top (b := hdI r) (hn) ?_
            refine g_istore C (lv' := [(4, .int (hdI r)), (2, .int (nI (e - A.sz q))), (5, .int (nI d)), (3, .int (nI b)), (0, .ref (g 0)), (1, .int (nI i))]) dX2_cellOfEntry_69 (by decide) rfl ?_
            refine g_iinc C (q := 2) (v := nI (d + 1)) (lv' := [(5, .int (nI (d + 1))), (4, .int (hdI r)), (2, .int (nI (e - A.sz q))), (3, .int (nI b)), (0, .ref (g 0)), (1, .int (nI i))]) dX2_cellOfEntry_71 rfl (nI_1 d) (by decide) rfl ?_
            refine g_goto C (tgt := 18) dX2_cellOfEntry_74 (by decide) ?_
            refine g_lv (lv' := [(2, .int (nI (e - A.sz q))), (4, .int (hdI r)), (5, .int (nI (d + 1))), (3, .int (nI b)), (0, .ref (g 0)), (1, .int (nI i))]) [2, 1, 0, 3, 4, 5] rfl ?_
            exact ih2 (r, d + 1, e - A.sz q) ⟨j1, by omega, by omega, by rw [j3, if_neg (by omega)]⟩ (Nat.lt_succ_self _)
          · skip
            have h3 : e < A.sz q := Nat.lt_of_not_le (fun w => c4 (nI_le w (by omega)))
            refine g_iload C dX2_cellOfEntry_45 1 rfl ?_
            refine g_iconst C (v := 4) dX2_cellOfEntry_47 (by decide) ?_
            refine g_imul C dX2_cellOfEntry_48 ?_
            refine g_top (b := nI (q * 4)) (pk_mul q 4) ?_
            refine g_iload_n C dX2_cellOfEntry_49 0 rfl rfl ?_
            refine g_iadd C dX2_cellOfEntry_50 ?_
            refine g_top (b := nI (q * 4 + e)) (nI_add _ _) ?_
            exact ret _ () _ _ dX2_cellOfEntry_51 (by rw [j3, if_pos h3]; rfl)
