/-! made by wip/whole/gen.py and m1.py -/
theorem clr3 {M : Mem} {p : Nat} {x : Int32} (h : ∀ q, q < p → M 3 q = 0 ∧ M 4 q = vNONE ∧ M 5 q = if 64 ≤ q then 1 else 0) (hx : x = if 64 ≤ p then 1 else 0) : ∀ q, q < p + 1 → ps (ps (ps M 3 p 0) 4 p vNONE) 5 p x 3 q = 0 ∧ ps (ps (ps M 3 p 0) 4 p vNONE) 5 p x 4 q = vNONE ∧ ps (ps (ps M 3 p 0) 4 p vNONE) 5 p x 5 q = if 64 ≤ q then 1 else 0 := by
  intro q hq
  show upd (M 3) p 0 q = 0 ∧ upd (M 4) p vNONE q = vNONE ∧ upd (M 5) p x q = _
  by_cases e : q = p
  · subst e; rw [pk_us, pk_us, pk_us]; exact ⟨rfl, rfl, hx⟩
  · rw [pk_un e, pk_un e, pk_un e]; exact h q (by omega)
theorem KW_345 (M : Mem) (p : Nat) (x y : Int32) : KW M (ps (ps (ps M 3 p 0) 4 p y) 5 p x) := ⟨rfl, rfl, rfl, fun _ _ _ => rfl⟩
theorem take_snoc {l : List LE} {i : Nat} (hi : i < l.length) : l.take (i + 1) = l.take i ++ [l.getD i (0, none)] := by
  rw [List.take_succ, List.getD_eq_getElem?_getD, List.getElem?_eq_getElem hi]; rfl
theorem mX4_write_k44 : Cond.constant RX4 44 (-2000000005) ∈ wsX4_write := List.mem_of_getElem? (i := 2) rfl
theorem mX4_write_f52 : Cond.fieldLink RX4 52 (TX4 7).1 (TX4 7).2.1 (TX4 7).2.2.1 ∈ wsX4_write := List.mem_of_getElem? (i := 1) rfl
theorem iX4_write_X4 : ∀ w ∈ wsX40, w ∈ wsX4_write := by decide +kernel
theorem mX4_write_f13 : Cond.fieldLink RX4 13 (TX4 1).1 (TX4 1).2.1 (TX4 1).2.2.1 ∈ wsX4_write := List.mem_of_getElem? (i := 3) rfl
set_option maxHeartbeats 1600000 in
set_option maxRecDepth 20000 in
theorem c_X4_write_put (l : Launch) (D : va_G) (cy cz : ClassId) (m : Nat → Nat) (M : Mem) (A : AS) (k : Int32) (v : Int32) (hr : RM A M) (h0 : 0 ≤ v) (hm : A.fnd k = none → A.rm (A.ad k)) : MV l yX4_write wsX4_write (rmF 4 144) D (tyL cy cz) [.ref (m 0), .int k, .int v] (wM cy cz m M) (fun (M1 : Mem) => RM (A.put (M 0 2) k v).1 M1 ∧ M1 0 2 = (A.put (M 0 2) k v).2 ∧ KW M M1) (fun M1 => (wM cy cz m M1)) := by
  refine g_entV (cc := cX4_write) (maxL := 4) (own := RX4) (by decide) rfl rfl (Nat.le_of_ble_eq_true rfl) (fun x C ret => ?_)
  show G x l (rmF 4 144) D 4 0 0 (wM cy cz m M) [(0, .ref (m 0)), (1, .int k), (2, .int v)] [] 0
  refine g_aload_n C dX4_write_0 0 rfl rfl ?_
  refine g_iload_n C dX4_write_1 1 rfl rfl ?_
  refine g_callIV C [0, 1, 2, 3, 4, 5, 6, 7, 8, 9, 10] [] [0, 1, 2, 3, 4, 5, 6, 7, 8, 9, 10] 0 4 (b := m 0) rfl rfl (As := [.int k]) (rest := []) (wr := ([] : va_W)) (wf := fun _ => (wM cy cz m M)) dX4_write_2 gX4_write_X4_placeOf rfl dmX4_placeOf ⟨rfl, rfl, Nat.le_of_ble_eq_true rfl, Nat.le_of_ble_eq_true rfl, Nat.zero_le _, Nat.zero_le _⟩ (c_X4_placeOf l D cy cz m M A k hr) ⟨rfl, rfl, rfl, rfl, by decide, rfl, fun _ => rfl⟩ (Nat.le_of_ble_eq_true rfl) ?_
  rintro _ - rfl
  show G x l (rmF 4 144) D 4 0 0 (wM cy cz m M) [(0, .ref (m 0)), (1, .int k), (2, .int v)] [.int (ocI (A.fnd k))] 5
  rcases hf : A.fnd k with _ | c
  · skip
    show G x l (rmF 4 144) D 4 0 0 (wM cy cz m M) [(0, .ref (m 0)), (1, .int k), (2, .int v)] [.int vNONE] 5
    refine g_istore_n C (lv' := [(3, .int vNONE), (0, .ref (m 0)), (1, .int k), (2, .int v)]) dX4_write_5 rfl (by decide) rfl ?_
    refine g_iload_n C dX4_write_6 3 rfl rfl ?_
    refine g_if_ge C (tgt := 55) dX4_write_7 (by decide) (fun c1 => ?_) (fun c1 => ?_)
    · skip
      refine g_iload_n C dX4_write_55 0 rfl rfl ?_
      refine g_ldc C (v := vNONE) mX4_write_k44 dX4_write_56 ?_
      refine g_icmp_eq C (tgt := 71) dX4_write_58 (by decide) (fun c2 => ?_) (fun c2 => ?_)
      · skip
        refine g_aload_n C dX4_write_71 1 rfl rfl ?_
        refine g_aload_n C dX4_write_72 1 rfl rfl ?_
        refine g_iload_n C dX4_write_73 2 rfl rfl ?_
        refine g_callIV C [0, 1, 2, 3, 4, 5, 6, 7, 8, 9, 10] [] [0, 1, 2, 3, 4, 5, 6, 7, 8, 9, 10] 0 4 (b := m 0) rfl rfl (As := [.int k]) (rest := [.ref (m 0)]) (wr := ([] : va_W)) (wf := fun _ => (wM cy cz m M)) dX4_write_74 gX4_write_X4_addressOf rfl dmX4_addressOf ⟨rfl, rfl, Nat.le_of_ble_eq_true rfl, Nat.le_of_ble_eq_true rfl, Nat.zero_le _, Nat.zero_le _⟩ (c_X4_addressOf l D cy cz m M A.L A.S k hr.2.2.1 hr.2.2.2 hr.2.1.1 hr.S64) ⟨rfl, rfl, rfl, rfl, by decide, rfl, fun _ => rfl⟩ (Nat.le_of_ble_eq_true rfl) ?_
        rintro _ - rfl
        show G x l (rmF 4 144) D 4 0 0 (wM cy cz m M) [(3, .int vNONE), (0, .ref (m 0)), (1, .int k), (2, .int v)] [.int (nI (adr A.L A.S k)), .ref (m 0)] 77
        refine g_top (b := nI (A.ad k)) (rfl) ?_
        refine g_iload_n C dX4_write_77 2 rfl rfl ?_
        refine g_iload_n C dX4_write_78 3 rfl rfl ?_
        refine g_callVV C [0, 1, 2, 3, 4, 5, 6, 7, 8, 9, 10] [] [0, 1, 2, 3, 4, 5, 6, 7, 8, 9, 10] 0 4 (b := m 0) rfl rfl (As := [.int (nI (A.ad k)), .int k, .int v]) (rest := []) (wr := ([] : va_W)) (wf := fun M2 => (wM cy cz m M2)) dX4_write_79 gX4_write_X4_add rfl dmX4_add ⟨rfl, rfl, Nat.le_of_ble_eq_true rfl, Nat.le_of_ble_eq_true rfl, Nat.zero_le _, Nat.zero_le _⟩ (c_X4_add l D cy cz m M A (A.ad k) k v hr.1 (hr.adlt k) (hm hf)) ⟨rfl, rfl, rfl, rfl, by decide, rfl, fun _ => rfl⟩ (Nat.le_of_ble_eq_true rfl) ?_
        intro M2 hp2
        show G x l (rmF 4 144) D 4 0 0 (wM cy cz m M2) [(3, .int vNONE), (0, .ref (m 0)), (1, .int k), (2, .int v)] [] 82
        have hA1 := RM_add hr (hm hf) hp2.1 hp2.2.1
        have hnb : (A.add (A.ad k) k v).nb = A.nb := by unfold AS.nb; rw [(add_LS _ _ _ _).1, (add_LS _ _ _ _).2]
        have n64 := hr.nb64
        refine g_aload_n C dX4_write_82 1 rfl rfl ?_
        refine g_dup C dX4_write_83 rfl ?_
        refine g_get C 0 (f := 7) (v := .int (M2 0 2)) (Cn := RX4) (T := TX4) (N := 20) dX4_write_84 rfl rfl iX4_write_X4 (by decide) mX4_write_f52 rfl ?_
        refine g_top (b := M 0 2) (congrFun hp2.2.1 2) ?_
        refine g_iconst C (v := 1) dX4_write_87 (by decide) ?_
        refine g_iadd C dX4_write_88 ?_
        refine g_put C 0 (f := 7) (v := .int ((M 0 2) + 1)) (ty := .int) (Cn := RX4) (T := TX4) (N := 20) (ws' := (wM cy cz m (ps M2 0 2 ((M 0 2) + 1)))) dX4_write_89 rfl rfl iX4_write_X4 tyX4 tyX4_ok nmX4 (by decide) mX4_write_f52 rfl rfl (rfl) (rfl) (Nat.le_of_ble_eq_true rfl) (wM_s2 cy cz m M2 ((M 0 2) + 1)) ?_
        refine g_aload_n C dX4_write_92 1 rfl rfl ?_
        refine g_get C 0 (f := 7) (v := .int ((M 0 2) + 1)) (Cn := RX4) (T := TX4) (N := 20) dX4_write_93 rfl rfl iX4_write_X4 (by decide) mX4_write_f52 rfl ?_
        refine g_iconst C (v := 3) dX4_write_96 (by decide) ?_
        refine g_aload_n C dX4_write_97 1 rfl rfl ?_
        refine g_callIV C [0, 1, 2, 3, 4, 5, 6, 7, 8, 9, 10] [] [0, 1, 2, 3, 4, 5, 6, 7, 8, 9, 10] 0 4 (b := m 0) rfl rfl (As := []) (rest := [.int 3, .int ((M 0 2) + 1)]) (wr := ([] : va_W)) (wf := fun _ => (wM cy cz m (ps M2 0 2 ((M 0 2) + 1)))) dX4_write_98 gX4_write_X4_buckets rfl dmX4_buckets ⟨rfl, rfl, Nat.le_of_ble_eq_true rfl, Nat.le_of_ble_eq_true rfl, Nat.zero_le _, Nat.zero_le _⟩ (c_X4_buckets l D cy cz m (ps M2 0 2 ((M 0 2) + 1))) ⟨rfl, rfl, rfl, rfl, by decide, rfl, fun _ => rfl⟩ (Nat.le_of_ble_eq_true rfl) ?_
        rintro _ - rfl
        show G x l (rmF 4 144) D 4 0 0 (wM cy cz m (ps M2 0 2 ((M 0 2) + 1))) [(3, .int vNONE), (0, .ref (m 0)), (1, .int k), (2, .int v)] [.int ((4 <<< ((ps M2 0 2 ((M 0 2) + 1)) 0 0 &&& 31)) + (ps M2 0 2 ((M 0 2) + 1)) 0 1), .int 3, .int ((M 0 2) + 1)] 101
        refine g_top (b := nI A.nb) ((show (4 <<< (M2 0 0 &&& 31) : Int32) + M2 0 1 = nI A.nb from hA1.nb.trans (congrArg nI hnb))) ?_
        refine g_imul C dX4_write_101 ?_
        refine g_icmp_le C (tgt := 118) dX4_write_102 (by decide) (fun c3 => ?_) (fun c3 => ?_)
        · skip
          exact ret (ps M2 0 2 ((M 0 2) + 1)) _ _ dX4_write_118 (by unfold AS.put; rw [hf]; show RM (if _ then _ else _ : AS × Int32).1 _ ∧ _ = (if _ then _ else _ : AS × Int32).2 ∧ _; rw [if_neg (fun w => absurd w.1 (Int32.not_lt.mpr c3))]; exact ⟨hA1, rfl, hp2.2.h.w.tr (KW_s (Or.inl (by decide)))⟩)
        · skip
          refine g_aload_n C dX4_write_105 1 rfl rfl ?_
          refine g_callIV C [0, 1, 2, 3, 4, 5, 6, 7, 8, 9, 10] [] [0, 1, 2, 3, 4, 5, 6, 7, 8, 9, 10] 0 4 (b := m 0) rfl rfl (As := []) (rest := []) (wr := ([] : va_W)) (wf := fun _ => (wM cy cz m (ps M2 0 2 ((M 0 2) + 1)))) dX4_write_106 gX4_write_X4_buckets rfl dmX4_buckets ⟨rfl, rfl, Nat.le_of_ble_eq_true rfl, Nat.le_of_ble_eq_true rfl, Nat.zero_le _, Nat.zero_le _⟩ (c_X4_buckets l D cy cz m (ps M2 0 2 ((M 0 2) + 1))) ⟨rfl, rfl, rfl, rfl, by decide, rfl, fun _ => rfl⟩ (Nat.le_of_ble_eq_true rfl) ?_
          rintro _ - rfl
          show G x l (rmF 4 144) D 4 0 0 (wM cy cz m (ps M2 0 2 ((M 0 2) + 1))) [(3, .int vNONE), (0, .ref (m 0)), (1, .int k), (2, .int v)] [.int ((4 <<< ((ps M2 0 2 ((M 0 2) + 1)) 0 0 &&& 31)) + (ps M2 0 2 ((M 0 2) + 1)) 0 1)] 109
          refine g_top (b := nI A.nb) ((show (4 <<< (M2 0 0 &&& 31) : Int32) + M2 0 1 = nI A.nb from hA1.nb.trans (congrArg nI hnb))) ?_
          refine g_bipush C (v := 64) dX4_write_109 (by decide) ?_
          refine g_icmp_ge C (tgt := 118) dX4_write_111 (by decide) (fun c4 => ?_) (fun c4 => ?_)
          · skip
            exact ret (ps M2 0 2 ((M 0 2) + 1)) _ _ dX4_write_118 (by unfold AS.put; rw [hf]; show RM (if _ then _ else _ : AS × Int32).1 _ ∧ _ = (if _ then _ else _ : AS × Int32).2 ∧ _; rw [if_neg (fun w => absurd c4 (nI_ge w.2 (by decide)))]; exact ⟨hA1, rfl, hp2.2.h.w.tr (KW_s (Or.inl (by decide)))⟩)
          · skip
            have hn : A.nb < 64 := Nat.lt_of_not_le (fun w => c4 (nI_le w (by omega)))
            refine g_aload_n C dX4_write_114 1 rfl rfl ?_
            refine g_callVV C [0, 1, 2, 3, 4, 5, 6, 7, 8, 9, 10] [] [0, 1, 2, 3, 4, 5, 6, 7, 8, 9, 10] 0 4 (b := m 0) rfl rfl (As := []) (rest := []) (wr := ([] : va_W)) (wf := fun M3 => (wM cy cz m M3)) dX4_write_115 gX4_write_X4_grow rfl dmX4_grow ⟨rfl, rfl, Nat.le_of_ble_eq_true rfl, Nat.le_of_ble_eq_true rfl, Nat.zero_le _, Nat.zero_le _⟩ (c_X4_grow l D cy cz m (ps M2 0 2 ((M 0 2) + 1)) (A.add (A.ad k) k v) hA1 (by rw [hnb]; exact hn)) ⟨rfl, rfl, rfl, rfl, by decide, rfl, fun _ => rfl⟩ (Nat.le_of_ble_eq_true rfl) ?_
            intro M3 hp3
            show G x l (rmF 4 144) D 4 0 0 (wM cy cz m M3) [(3, .int vNONE), (0, .ref (m 0)), (1, .int k), (2, .int v)] [] 118
            exact ret M3 _ _ dX4_write_118 (by unfold AS.put; rw [hf]; show RM (if _ then _ else _ : AS × Int32).1 _ ∧ _ = (if _ then _ else _ : AS × Int32).2 ∧ _; rw [if_pos ⟨Int32.not_le.mp c3, hn⟩]; exact ⟨hp3.1, hp3.2.1, (hp2.2.h.w.tr (KW_s (Or.inl (by decide)))).tr hp3.2.2⟩)
      · skip
        exact absurd rfl (c2)
    · skip
      exact absurd h0 (c1)
  · skip
    have hc5 : c < 512 := fnd_lt hr.1.1 hr.2.1 hf
    show G x l (rmF 4 144) D 4 0 0 (wM cy cz m M) [(0, .ref (m 0)), (1, .int k), (2, .int v)] [.int (nI c)] 5
    refine g_istore_n C (lv' := [(3, .int (nI c)), (0, .ref (m 0)), (1, .int k), (2, .int v)]) dX4_write_5 rfl (by decide) rfl ?_
    refine g_iload_n C dX4_write_6 3 rfl rfl ?_
    refine g_if_ge C (tgt := 55) dX4_write_7 (by decide) (fun c1 => ?_) (fun c1 => ?_)
    · skip
      refine g_iload_n C dX4_write_55 0 rfl rfl ?_
      refine g_ldc C (v := vNONE) mX4_write_k44 dX4_write_56 ?_
      refine g_icmp_eq C (tgt := 71) dX4_write_58 (by decide) (fun c2 => ?_) (fun c2 => ?_)
      · skip
        exact absurd c2 (NONE_nI (by omega))
      · skip
        refine g_aload_n C dX4_write_61 1 rfl rfl ?_
        refine g_get C 0 (f := 1) (v := .ref (m 2)) (Cn := RX4) (T := TX4) (N := 20) dX4_write_62 rfl rfl iX4_write_X4 (by decide) mX4_write_f13 rfl ?_
        refine g_iload_n C dX4_write_65 0 rfl rfl ?_
        refine g_iload_n C dX4_write_66 3 rfl rfl ?_
        refine g_iast C 2 0 (f := M 2) (N := 512) (ws' := (wM cy cz m (ps M 2 c v))) c dX4_write_67 rfl rfl (by decide) (rfl) (hc5) (wM_a2 cy cz m M c v) ?_
        refine g_goto C (tgt := 118) dX4_write_68 (by decide) ?_
        exact ret (ps M 2 c v) _ _ dX4_write_118 (by unfold AS.put; rw [hf]; exact ⟨RM_setV hr c v, rfl, (KA_add1 (by decide)).h.w⟩)
    · skip
      exact absurd h0 (c1)

set_option maxHeartbeats 1600000 in
set_option maxRecDepth 20000 in
theorem c_X4_write_rem (l : Launch) (D : va_G) (cy cz : ClassId) (m : Nat → Nat) (M : Mem) (A : AS) (k : Int32) (c : Nat) (hr : RM A M) (hf : A.fnd k = some c) : MV l yX4_write wsX4_write (rmF 4 144) D (tyL cy cz) [.ref (m 0), .int k, .int (-1)] (wM cy cz m M) (fun (M1 : Mem) => RM (A.rem (M 0 2) k).1 M1 ∧ M1 0 2 = (A.rem (M 0 2) k).2 ∧ KW M M1) (fun M1 => (wM cy cz m M1)) := by
  refine g_entV (cc := cX4_write) (maxL := 4) (own := RX4) (by decide) rfl rfl (Nat.le_of_ble_eq_true rfl) (fun x C ret => ?_)
  show G x l (rmF 4 144) D 4 0 0 (wM cy cz m M) [(0, .ref (m 0)), (1, .int k), (2, .int (-1))] [] 0
  have hlive := (fnd_live hf).1
  have hkc := (fnd_live hf).2
  have hc5 : c < 512 := fnd_lt hr.1.1 hr.2.1 hf
  refine g_aload_n C dX4_write_0 0 rfl rfl ?_
  refine g_iload_n C dX4_write_1 1 rfl rfl ?_
  refine g_callIV C [0, 1, 2, 3, 4, 5, 6, 7, 8, 9, 10] [] [0, 1, 2, 3, 4, 5, 6, 7, 8, 9, 10] 0 4 (b := m 0) rfl rfl (As := [.int k]) (rest := []) (wr := ([] : va_W)) (wf := fun _ => (wM cy cz m M)) dX4_write_2 gX4_write_X4_placeOf rfl dmX4_placeOf ⟨rfl, rfl, Nat.le_of_ble_eq_true rfl, Nat.le_of_ble_eq_true rfl, Nat.zero_le _, Nat.zero_le _⟩ (c_X4_placeOf l D cy cz m M A k hr) ⟨rfl, rfl, rfl, rfl, by decide, rfl, fun _ => rfl⟩ (Nat.le_of_ble_eq_true rfl) ?_
  rintro _ - rfl
  show G x l (rmF 4 144) D 4 0 0 (wM cy cz m M) [(0, .ref (m 0)), (1, .int k), (2, .int (-1))] [.int (ocI (A.fnd k))] 5
  refine g_top (b := nI c) (by rw [hf]; rfl) ?_
  refine g_istore_n C (lv' := [(3, .int (nI c)), (0, .ref (m 0)), (1, .int k), (2, .int (-1))]) dX4_write_5 rfl (by decide) rfl ?_
  refine g_iload_n C dX4_write_6 3 rfl rfl ?_
  refine g_if_ge C (tgt := 55) dX4_write_7 (by decide) (fun c1 => ?_) (fun c1 => ?_)
  · skip
    exact absurd c1 (by decide)
  · skip
    refine g_aload_n C dX4_write_10 1 rfl rfl ?_
    refine g_iload_n C dX4_write_11 0 rfl rfl ?_
    refine g_callVV C [0, 1, 2, 3, 4, 5, 6, 7, 8, 9, 10] [] [0, 1, 2, 3, 4, 5, 6, 7, 8, 9, 10] 0 4 (b := m 0) rfl rfl (As := [.int (nI c)]) (rest := []) (wr := ([] : va_W)) (wf := fun M2 => (wM cy cz m M2)) dX4_write_12 gX4_write_X4_takeOut rfl dmX4_takeOut ⟨rfl, rfl, Nat.le_of_ble_eq_true rfl, Nat.le_of_ble_eq_true rfl, Nat.zero_le _, Nat.zero_le _⟩ (c_X4_takeOut l D cy cz m M A (A.ad k) c hr (hr.adlt k) hlive (by rw [hkc]) hc5) ⟨rfl, rfl, rfl, rfl, by decide, rfl, fun _ => rfl⟩ (Nat.le_of_ble_eq_true rfl) ?_
    intro M2 hp2
    show G x l (rmF 4 144) D 4 0 0 (wM cy cz m M2) [(3, .int (nI c)), (0, .ref (m 0)), (1, .int k), (2, .int (-1))] [] 15
    have hA1 := RM_del hr (adr_lt A.L A.S k) hlive hp2.1 hp2.2.1
    have hnb : (A.del (A.ad k) c).nb = A.nb := by unfold AS.nb; rw [(del_LS _ _ _).1, (del_LS _ _ _).2]
    have n64 := hr.nb64
    refine g_aload_n C dX4_write_15 1 rfl rfl ?_
    refine g_dup C dX4_write_16 rfl ?_
    refine g_get C 0 (f := 7) (v := .int (M2 0 2)) (Cn := RX4) (T := TX4) (N := 20) dX4_write_17 rfl rfl iX4_write_X4 (by decide) mX4_write_f52 rfl ?_
    refine g_top (b := M 0 2) (congrFun hp2.2.1 2) ?_
    refine g_iconst C (v := 1) dX4_write_20 (by decide) ?_
    refine g_isub C dX4_write_21 ?_
    refine g_put C 0 (f := 7) (v := .int ((M 0 2) - 1)) (ty := .int) (Cn := RX4) (T := TX4) (N := 20) (ws' := (wM cy cz m (ps M2 0 2 ((M 0 2) - 1)))) dX4_write_22 rfl rfl iX4_write_X4 tyX4 tyX4_ok nmX4 (by decide) mX4_write_f52 rfl rfl (rfl) (rfl) (Nat.le_of_ble_eq_true rfl) (wM_s2 cy cz m M2 ((M 0 2) - 1)) ?_
    refine g_aload_n C dX4_write_25 1 rfl rfl ?_
    refine g_callIV C [0, 1, 2, 3, 4, 5, 6, 7, 8, 9, 10] [] [0, 1, 2, 3, 4, 5, 6, 7, 8, 9, 10] 0 4 (b := m 0) rfl rfl (As := []) (rest := []) (wr := ([] : va_W)) (wf := fun _ => (wM cy cz m (ps M2 0 2 ((M 0 2) - 1)))) dX4_write_26 gX4_write_X4_buckets rfl dmX4_buckets ⟨rfl, rfl, Nat.le_of_ble_eq_true rfl, Nat.le_of_ble_eq_true rfl, Nat.zero_le _, Nat.zero_le _⟩ (c_X4_buckets l D cy cz m (ps M2 0 2 ((M 0 2) - 1))) ⟨rfl, rfl, rfl, rfl, by decide, rfl, fun _ => rfl⟩ (Nat.le_of_ble_eq_true rfl) ?_
    rintro _ - rfl
    show G x l (rmF 4 144) D 4 0 0 (wM cy cz m (ps M2 0 2 ((M 0 2) - 1))) [(3, .int (nI c)), (0, .ref (m 0)), (1, .int k), (2, .int (-1))] [.int ((4 <<< ((ps M2 0 2 ((M 0 2) - 1)) 0 0 &&& 31)) + (ps M2 0 2 ((M 0 2) - 1)) 0 1)] 29
    refine g_top (b := nI A.nb) ((show (4 <<< (M2 0 0 &&& 31) : Int32) + M2 0 1 = nI A.nb from hA1.nb.trans (congrArg nI hnb))) ?_
    refine g_iconst C (v := 4) dX4_write_29 (by decide) ?_
    refine g_icmp_le C (tgt := 118) dX4_write_30 (by decide) (fun c4 => ?_) (fun c4 => ?_)
    · skip
      have hn : ¬ 4 < A.nb := by have := (nI_leI (b := 4) (by omega) (by decide)).mp c4; omega
      exact ret (ps M2 0 2 ((M 0 2) - 1)) _ _ dX4_write_118 (by unfold AS.rem; rw [hf]; show RM (if _ then _ else _ : AS × Int32).1 _ ∧ _ = (if _ then _ else _ : AS × Int32).2 ∧ _; rw [if_neg (fun w => hn w.1)]; exact ⟨hA1, rfl, hp2.2.h.w.tr (KW_s (Or.inl (by decide)))⟩)
    · skip
      have hn : 4 < A.nb := Nat.lt_of_not_le (fun w => c4 (nI_le w (by decide)))
      refine g_iconst C (v := 2) dX4_write_33 (by decide) ?_
      refine g_aload_n C dX4_write_34 1 rfl rfl ?_
      refine g_get C 0 (f := 7) (v := .int ((ps M2 0 2 ((M 0 2) - 1)) 0 2)) (Cn := RX4) (T := TX4) (N := 20) dX4_write_35 rfl rfl iX4_write_X4 (by decide) mX4_write_f52 rfl ?_
      refine g_imul C dX4_write_38 ?_
      refine g_iconst C (v := 3) dX4_write_39 (by decide) ?_
      refine g_aload_n C dX4_write_40 1 rfl rfl ?_
      refine g_callIV C [0, 1, 2, 3, 4, 5, 6, 7, 8, 9, 10] [] [0, 1, 2, 3, 4, 5, 6, 7, 8, 9, 10] 0 4 (b := m 0) rfl rfl (As := []) (rest := [.int 3, .int (2 * ((ps M2 0 2 ((M 0 2) - 1)) 0 2))]) (wr := ([] : va_W)) (wf := fun _ => (wM cy cz m (ps M2 0 2 ((M 0 2) - 1)))) dX4_write_41 gX4_write_X4_buckets rfl dmX4_buckets ⟨rfl, rfl, Nat.le_of_ble_eq_true rfl, Nat.le_of_ble_eq_true rfl, Nat.zero_le _, Nat.zero_le _⟩ (c_X4_buckets l D cy cz m (ps M2 0 2 ((M 0 2) - 1))) ⟨rfl, rfl, rfl, rfl, by decide, rfl, fun _ => rfl⟩ (Nat.le_of_ble_eq_true rfl) ?_
      rintro _ - rfl
      show G x l (rmF 4 144) D 4 0 0 (wM cy cz m (ps M2 0 2 ((M 0 2) - 1))) [(3, .int (nI c)), (0, .ref (m 0)), (1, .int k), (2, .int (-1))] [.int ((4 <<< ((ps M2 0 2 ((M 0 2) - 1)) 0 0 &&& 31)) + (ps M2 0 2 ((M 0 2) - 1)) 0 1), .int 3, .int (2 * ((ps M2 0 2 ((M 0 2) - 1)) 0 2))] 44
      refine g_top (b := nI A.nb) ((show (4 <<< (M2 0 0 &&& 31) : Int32) + M2 0 1 = nI A.nb from hA1.nb.trans (congrArg nI hnb))) ?_
      refine g_imul C dX4_write_44 ?_
      refine g_icmp_ge C (tgt := 118) dX4_write_45 (by decide) (fun c5 => ?_) (fun c5 => ?_)
      · skip
        exact ret (ps M2 0 2 ((M 0 2) - 1)) _ _ dX4_write_118 (by unfold AS.rem; rw [hf]; show RM (if _ then _ else _ : AS × Int32).1 _ ∧ _ = (if _ then _ else _ : AS × Int32).2 ∧ _; rw [if_neg (fun w => absurd w.2 (Int32.not_lt.mpr c5))]; exact ⟨hA1, rfl, hp2.2.h.w.tr (KW_s (Or.inl (by decide)))⟩)
      · skip
        refine g_aload_n C dX4_write_48 1 rfl rfl ?_
        refine g_callVV C [0, 1, 2, 3, 4, 5, 6, 7, 8, 9, 10] [] [0, 1, 2, 3, 4, 5, 6, 7, 8, 9, 10] 0 4 (b := m 0) rfl rfl (As := []) (rest := []) (wr := ([] : va_W)) (wf := fun M3 => (wM cy cz m M3)) dX4_write_49 gX4_write_X4_shrink rfl dmX4_shrink ⟨rfl, rfl, Nat.le_of_ble_eq_true rfl, Nat.le_of_ble_eq_true rfl, Nat.zero_le _, Nat.zero_le _⟩ (c_X4_shrink l D cy cz m (ps M2 0 2 ((M 0 2) - 1)) (A.del (A.ad k) c) hA1 (by rw [hnb]; exact hn)) ⟨rfl, rfl, rfl, rfl, by decide, rfl, fun _ => rfl⟩ (Nat.le_of_ble_eq_true rfl) ?_
        intro M3 hp3
        show G x l (rmF 4 144) D 4 0 0 (wM cy cz m M3) [(3, .int (nI c)), (0, .ref (m 0)), (1, .int k), (2, .int (-1))] [] 52
        refine g_goto C (tgt := 118) dX4_write_52 (by decide) ?_
        exact ret M3 _ _ dX4_write_118 (by unfold AS.rem; rw [hf]; show RM (if _ then _ else _ : AS × Int32).1 _ ∧ _ = (if _ then _ else _ : AS × Int32).2 ∧ _; rw [if_pos ⟨hn, Int32.not_le.mp c5⟩]; exact ⟨hp3.1, hp3.2.1, (hp2.2.h.w.tr (KW_s (Or.inl (by decide)))).tr hp3.2.2⟩)

theorem mX4_clear_f45 : Cond.fieldLink RX4 45 (TX4 5).1 (TX4 5).2.1 (TX4 5).2.2.1 ∈ wsX4_clear := List.mem_of_getElem? (i := 5) rfl
theorem iX4_clear_X4 : ∀ w ∈ wsX40, w ∈ wsX4_clear := by decide +kernel
theorem mX4_clear_f49 : Cond.fieldLink RX4 49 (TX4 6).1 (TX4 6).2.1 (TX4 6).2.2.1 ∈ wsX4_clear := List.mem_of_getElem? (i := 6) rfl
theorem mX4_clear_f52 : Cond.fieldLink RX4 52 (TX4 7).1 (TX4 7).2.1 (TX4 7).2.2.1 ∈ wsX4_clear := List.mem_of_getElem? (i := 7) rfl
theorem mX4_clear_f16 : Cond.fieldLink RX4 16 (TX4 2).1 (TX4 2).2.1 (TX4 2).2.2.1 ∈ wsX4_clear := List.mem_of_getElem? (i := 1) rfl
theorem mX4_clear_f19 : Cond.fieldLink RX4 19 (TX4 3).1 (TX4 3).2.1 (TX4 3).2.2.1 ∈ wsX4_clear := List.mem_of_getElem? (i := 2) rfl
theorem mX4_clear_k44 : Cond.constant RX4 44 (-2000000005) ∈ wsX4_clear := List.mem_of_getElem? (i := 3) rfl
theorem mX4_clear_f22 : Cond.fieldLink RX4 22 (TX4 4).1 (TX4 4).2.1 (TX4 4).2.2.1 ∈ wsX4_clear := List.mem_of_getElem? (i := 4) rfl
set_option maxHeartbeats 1600000 in
set_option maxRecDepth 20000 in
theorem c_X4_clear (l : Launch) (D : va_G) (cy cz : ClassId) (m : Nat → Nat) (M : Mem) : MV l yX4_clear wsX4_clear (rmF 0 0) D (tyL cy cz) [.ref (m 0)] (wM cy cz m M) (fun (M1 : Mem) => RM A0 M1 ∧ M1 0 2 = 0 ∧ KW M M1) (fun M1 => (wM cy cz m M1)) := by
  refine g_entV (cc := cX4_clear) (maxL := 2) (own := RX4) (by decide) rfl rfl (Nat.le_of_ble_eq_true rfl) (fun x C ret => ?_)
  show G x l (rmF 0 0) D 2 0 0 (wM cy cz m M) [(0, .ref (m 0))] [] 0
  refine g_iconst C (v := 0) dX4_clear_0 (by decide) ?_
  refine g_istore_n C (lv' := [(1, .int 0), (0, .ref (m 0))]) dX4_clear_1 rfl (by decide) rfl ?_
  refine g_loop (σ := Nat × Mem) (fun (a : Nat × Mem) => match a with | (p, M1) => (wM cy cz m M1)) (fun (a : Nat × Mem) => match a with | (p, M1) => [(1, .int (nI p)), (0, .ref (m 0))]) (fun (a : Nat × Mem) => match a with | (p, M1) => (p ≤ 128) ∧ (∀ q, q < p → M1 3 q = 0 ∧ M1 4 q = vNONE ∧ M1 5 q = if 64 ≤ q then 1 else 0) ∧ (KW M M1)) (fun (a : Nat × Mem) => match a with | (p, M1) => 128 - p) ?_ (0, M) (⟨Nat.zero_le _, fun q hq => absurd hq (Nat.not_lt_zero _), KW.rf M⟩)
  intro a hI ih
  obtain ⟨p, M1⟩ := a
  obtain ⟨i1, i2, i3⟩ : (p ≤ 128) ∧ (∀ q, q < p → M1 3 q = 0 ∧ M1 4 q = vNONE ∧ M1 5 q = if 64 ≤ q then 1 else 0) ∧ (KW M M1) := hI
  show G x l (rmF 0 0) D 2 0 0 (wM cy cz m M1) [(1, .int (nI p)), (0, .ref (m 0))] [] 2
  refine g_iload_n C dX4_clear_2 0 rfl rfl ?_
  refine g_sipush C (v := 128) dX4_clear_3 (by decide) ?_
  refine g_icmp_ge C (tgt := 47) dX4_clear_6 (by decide) (fun c1 => ?_) (fun c1 => ?_)
  · skip
    have hp : p = 128 := by have := (nI_leI (a := 128) (by decide) (by omega)).mp c1; omega
    refine g_aload_n C dX4_clear_47 1 rfl rfl ?_
    refine g_iconst C (v := 0) dX4_clear_48 (by decide) ?_
    refine g_put C 0 (f := 5) (v := .int 0) (ty := .int) (Cn := RX4) (T := TX4) (N := 20) (ws' := (wM cy cz m (ps M1 0 0 0))) dX4_clear_49 rfl rfl iX4_clear_X4 tyX4 tyX4_ok nmX4 (by decide) mX4_clear_f45 rfl rfl (rfl) (rfl) (Nat.le_of_ble_eq_true rfl) (wM_s0 cy cz m M1 0) ?_
    refine g_aload_n C dX4_clear_52 1 rfl rfl ?_
    refine g_iconst C (v := 0) dX4_clear_53 (by decide) ?_
    refine g_put C 0 (f := 6) (v := .int 0) (ty := .int) (Cn := RX4) (T := TX4) (N := 20) (ws' := (wM cy cz m (ps (ps M1 0 0 0) 0 1 0))) dX4_clear_54 rfl rfl iX4_clear_X4 tyX4 tyX4_ok nmX4 (by decide) mX4_clear_f49 rfl rfl (rfl) (rfl) (Nat.le_of_ble_eq_true rfl) (wM_s1 cy cz m (ps M1 0 0 0) 0) ?_
    refine g_aload_n C dX4_clear_57 1 rfl rfl ?_
    refine g_iconst C (v := 0) dX4_clear_58 (by decide) ?_
    refine g_put C 0 (f := 7) (v := .int 0) (ty := .int) (Cn := RX4) (T := TX4) (N := 20) (ws' := (wM cy cz m (ps (ps (ps M1 0 0 0) 0 1 0) 0 2 0))) dX4_clear_59 rfl rfl iX4_clear_X4 tyX4 tyX4_ok nmX4 (by decide) mX4_clear_f52 rfl rfl (rfl) (rfl) (Nat.le_of_ble_eq_true rfl) (wM_s2 cy cz m (ps (ps M1 0 0 0) 0 1 0) 0) ?_
    exact ret (ps (ps (ps M1 0 0 0) 0 1 0) 0 2 0) _ _ dX4_clear_62 (⟨A0_RM (fun q hq => i2 q (by omega)) rfl rfl, rfl, i3.tr (((KW_s (Or.inl (by decide))).tr (KW_s (Or.inl (by decide)))).tr (KW_s (Or.inl (by decide))))⟩)
  · skip
    have hp : p < 128 := Nat.lt_of_not_le (fun w => c1 (nI_le w (by omega)))
    refine g_aload_n C dX4_clear_9 1 rfl rfl ?_
    refine g_get C 0 (f := 2) (v := .ref (m 3)) (Cn := RX4) (T := TX4) (N := 20) dX4_clear_10 rfl rfl iX4_clear_X4 (by decide) mX4_clear_f16 rfl ?_
    refine g_iload_n C dX4_clear_13 0 rfl rfl ?_
    refine g_iconst C (v := 0) dX4_clear_14 (by decide) ?_
    refine g_iast C 3 0 (f := M1 3) (N := 128) (ws' := (wM cy cz m (ps M1 3 p 0))) p dX4_clear_15 rfl rfl (by decide) (rfl) (hp) (wM_a3 cy cz m M1 p 0) ?_
    refine g_aload_n C dX4_clear_16 1 rfl rfl ?_
    refine g_get C 0 (f := 3) (v := .ref (m 4)) (Cn := RX4) (T := TX4) (N := 20) dX4_clear_17 rfl rfl iX4_clear_X4 (by decide) mX4_clear_f19 rfl ?_
    refine g_iload_n C dX4_clear_20 0 rfl rfl ?_
    refine g_ldc C (v := vNONE) mX4_clear_k44 dX4_clear_21 ?_
    refine g_iast C 4 0 (f := (ps M1 3 p 0) 4) (N := 128) (ws' := (wM cy cz m (ps (ps M1 3 p 0) 4 p vNONE))) p dX4_clear_23 rfl rfl (by decide) (rfl) (hp) (wM_a4 cy cz m (ps M1 3 p 0) p vNONE) ?_
    refine g_aload_n C dX4_clear_24 1 rfl rfl ?_
    refine g_get C 0 (f := 4) (v := .ref (m 5)) (Cn := RX4) (T := TX4) (N := 20) dX4_clear_25 rfl rfl iX4_clear_X4 (by decide) mX4_clear_f22 rfl ?_
    refine g_iload_n C dX4_clear_28 0 rfl rfl ?_
    refine g_iload_n C dX4_clear_29 0 rfl rfl ?_
    refine g_bipush C (v := 64) dX4_clear_30 (by decide) ?_
    refine g_icmp_lt C (tgt := 39) dX4_clear_32 (by decide) (fun c6 => ?_) (fun c6 => ?_)
    · skip
      have h7 : ¬ 64 ≤ p := by have := (nI_ltI (b := 64) (by omega) (by decide)).mp c6; omega
      refine g_iconst C (v := 0) dX4_clear_39 (by decide) ?_
      refine g_zast C 5 1 (f := (ps (ps M1 3 p 0) 4 p vNONE) 5) (N := 128) (ws' := (wM cy cz m (ps (ps (ps M1 3 p 0) 4 p vNONE) 5 p 0))) p dX4_clear_40 rfl rfl (by decide) (rfl) (hp) (by decide) (wM_a5 cy cz m (ps (ps M1 3 p 0) 4 p vNONE) p 0) ?_
      refine g_iinc C (q := 0) (v := nI (p + 1)) (lv' := [(1, .int (nI (p + 1))), (0, .ref (m 0))]) dX4_clear_41 rfl (nI_1 p) (by decide) rfl ?_
      refine g_goto C (tgt := 2) dX4_clear_44 (by decide) ?_
      exact ih (p + 1, (ps (ps (ps M1 3 p 0) 4 p vNONE) 5 p 0)) ⟨by omega, clr3 i2 (by rw [if_neg h7]), i3.tr (KW_345 _ _ _ _)⟩ (by show 128 - (p + 1) < 128 - p; omega)
    · skip
      have h7 : 64 ≤ p := Nat.le_of_not_lt (fun w => c6 (nI_lt w (by decide)))
      refine g_iconst C (v := 1) dX4_clear_35 (by decide) ?_
      refine g_goto C (tgt := 40) dX4_clear_36 (by decide) ?_
      refine g_zast C 5 1 (f := (ps (ps M1 3 p 0) 4 p vNONE) 5) (N := 128) (ws' := (wM cy cz m (ps (ps (ps M1 3 p 0) 4 p vNONE) 5 p 1))) p dX4_clear_40 rfl rfl (by decide) (rfl) (hp) (by decide) (wM_a5 cy cz m (ps (ps M1 3 p 0) 4 p vNONE) p 1) ?_
      refine g_iinc C (q := 0) (v := nI (p + 1)) (lv' := [(1, .int (nI (p + 1))), (0, .ref (m 0))]) dX4_clear_41 rfl (nI_1 p) (by decide) rfl ?_
      refine g_goto C (tgt := 2) dX4_clear_44 (by decide) ?_
      exact ih (p + 1, (ps (ps (ps M1 3 p 0) 4 p vNONE) 5 p 1)) ⟨by omega, clr3 i2 (by rw [if_pos h7]), i3.tr (KW_345 _ _ _ _)⟩ (by show 128 - (p + 1) < 128 - p; omega)

theorem mX4_again_f105 : Cond.fieldLink RX4 105 (TX4 10).1 (TX4 10).2.1 (TX4 10).2.2.1 ∈ wsX4_again := List.mem_of_getElem? (i := 1) rfl
theorem iX4_again_X4 : ∀ w ∈ wsX40, w ∈ wsX4_again := by decide +kernel
theorem mX4_again_f26 : Cond.fieldLink RX4 26 (TX4 8).1 (TX4 8).2.1 (TX4 8).2.2.1 ∈ wsX4_again := List.mem_of_getElem? (i := 2) rfl
theorem mX4_again_f29 : Cond.fieldLink RX4 29 (TX4 9).1 (TX4 9).2.1 (TX4 9).2.2.1 ∈ wsX4_again := List.mem_of_getElem? (i := 3) rfl
set_option maxHeartbeats 1600000 in
set_option maxRecDepth 20000 in
theorem c_X4_again (l : Launch) (D : va_G) (cy cz : ClassId) (m : Nat → Nat) (M : Mem) (lg : List LE) (n : Nat) (hl : RYl M lg) (hv : OKL lg) (hn : n ≤ lg.length) (h42 : lg.length ≤ 4200) : MV l yX4_again wsX4_again (rmF 5 180) D (tyL cy cz) [.ref (m 0), .int (nI n)] (wM cy cz m M) (fun (M1 : Mem) => RM (sto (lg.take n)).1 M1 ∧ M1 0 2 = (sto (lg.take n)).2 ∧ M1 0 3 = nI n ∧ M1 6 = M 6 ∧ M1 7 = M 7 ∧ M1 8 = M 8 ∧ ∀ j, 4 ≤ j → j ≤ 8 → M1 0 j = M 0 j) (fun M1 => (wM cy cz m M1)) := by
  refine g_entV (cc := cX4_again) (maxL := 3) (own := RX4) (by decide) rfl rfl (Nat.le_of_ble_eq_true rfl) (fun x C ret => ?_)
  show G x l (rmF 5 180) D 3 0 0 (wM cy cz m M) [(0, .ref (m 0)), (1, .int (nI n))] [] 0
  refine g_aload_n C dX4_again_0 0 rfl rfl ?_
  refine g_callVV C [0, 1, 2, 3, 4, 5, 6, 7, 8, 9, 10] [] [0, 1, 2, 3, 4, 5, 6, 7, 8, 9, 10] 0 4 (b := m 0) rfl rfl (As := []) (rest := []) (wr := ([] : va_W)) (wf := fun M2 => (wM cy cz m M2)) dX4_again_1 gX4_again_X4_clear rfl dmX4_clear ⟨rfl, rfl, Nat.le_of_ble_eq_true rfl, Nat.le_of_ble_eq_true rfl, Nat.zero_le _, Nat.zero_le _⟩ (c_X4_clear l D cy cz m M) ⟨rfl, rfl, rfl, rfl, by decide, rfl, fun _ => rfl⟩ (Nat.le_of_ble_eq_true rfl) ?_
  intro M2 hp2
  show G x l (rmF 5 180) D 3 0 0 (wM cy cz m M2) [(0, .ref (m 0)), (1, .int (nI n))] [] 4
  refine g_aload_n C dX4_again_4 0 rfl rfl ?_
  refine g_iload_n C dX4_again_5 1 rfl rfl ?_
  refine g_put C 0 (f := 10) (v := .int (nI n)) (ty := .int) (Cn := RX4) (T := TX4) (N := 20) (ws' := (wM cy cz m (ps M2 0 3 (nI n)))) dX4_again_6 rfl rfl iX4_again_X4 tyX4 tyX4_ok nmX4 (by decide) mX4_again_f105 rfl rfl (rfl) (rfl) (Nat.le_of_ble_eq_true rfl) (wM_s3 cy cz m M2 (nI n)) ?_
  refine g_iconst C (v := 0) dX4_again_9 (by decide) ?_
  refine g_istore_n C (lv' := [(2, .int 0), (0, .ref (m 0)), (1, .int (nI n))]) dX4_again_10 rfl (by decide) rfl ?_
  refine g_loop (σ := Nat × Mem) (fun (a : Nat × Mem) => match a with | (i, Mi) => (wM cy cz m Mi)) (fun (a : Nat × Mem) => match a with | (i, Mi) => [(2, .int (nI i)), (0, .ref (m 0)), (1, .int (nI n))]) (fun (a : Nat × Mem) => match a with | (i, Mi) => (i ≤ n) ∧ (RM (sto (lg.take i)).1 Mi) ∧ (Mi 0 2 = (sto (lg.take i)).2) ∧ (KW (ps M2 0 3 (nI n)) Mi)) (fun (a : Nat × Mem) => match a with | (i, Mi) => n - i) ?_ (0, (ps M2 0 3 (nI n))) (⟨Nat.zero_le _, hp2.1, hp2.2.1, KW.rf _⟩)
  intro a hI ih
  obtain ⟨i, Mi⟩ := a
  obtain ⟨i1, i2, i3, i4⟩ : (i ≤ n) ∧ (RM (sto (lg.take i)).1 Mi) ∧ (Mi 0 2 = (sto (lg.take i)).2) ∧ (KW (ps M2 0 3 (nI n)) Mi) := hI
  show G x l (rmF 5 180) D 3 0 0 (wM cy cz m Mi) [(2, .int (nI i)), (0, .ref (m 0)), (1, .int (nI n))] [] 11
  have e6 : Mi 6 = M 6 := i4.1.trans hp2.2.2.1
  have e7 : Mi 7 = M 7 := i4.2.1.trans hp2.2.2.2.1
  refine g_iload_n C dX4_again_11 0 rfl rfl ?_
  refine g_aload_n C dX4_again_12 1 rfl rfl ?_
  refine g_get C 0 (f := 10) (v := .int (Mi 0 3)) (Cn := RX4) (T := TX4) (N := 20) dX4_again_13 rfl rfl iX4_again_X4 (by decide) mX4_again_f105 rfl ?_
  refine g_top (b := nI n) (i4.2.2.2 3 (by decide) (by decide)) ?_
  refine g_icmp_ge C (tgt := 41) dX4_again_16 (by decide) (fun c2 => ?_) (fun c2 => ?_)
  · skip
    have hi : i = n := by have := (nI_leI (by omega) (by omega)).mp c2; omega
    exact ret Mi _ _ dX4_again_41 (⟨by rw [hi] at i2; exact i2, by rw [hi] at i3; exact i3, i4.2.2.2 3 (by decide) (by decide), e6, e7, i4.2.2.1.trans hp2.2.2.2.2.1, fun j a b => (i4.2.2.2 j (by omega) b).trans ((show upd (M2 0) 3 (nI n) j = M2 0 j from pk_un (by omega)).trans (hp2.2.2.2.2.2 j (by omega) b))⟩)
  · skip
    have hin : i < n := Nat.lt_of_not_le (fun w => c2 (nI_le w (by omega)))
    have hi : i < lg.length := by omega
    have hw := hl i hi
    have hok := hv i hi
    rcases ho : (lg.getD i (0, none)).2 with _ | v
    · skip
      rw [ho] at hw
      unfold okE at hok
      rw [ho] at hok
      obtain ⟨c, hc⟩ : ∃ c, (sto (lg.take i)).1.fnd (lg.getD i (0, none)).1 = some c := Option.ne_none_iff_exists'.mp hok
      refine g_aload_n C dX4_again_19 1 rfl rfl ?_
      refine g_aload_n C dX4_again_20 1 rfl rfl ?_
      refine g_get C 0 (f := 8) (v := .ref (m 6)) (Cn := RX4) (T := TX4) (N := 20) dX4_again_21 rfl rfl iX4_again_X4 (by decide) mX4_again_f26 rfl ?_
      refine g_iload_n C dX4_again_24 0 rfl rfl ?_
      refine g_iald C 6 0 (f := Mi 6) (N := 4200) i dX4_again_25 rfl rfl (by decide) (rfl) (by omega) ?_
      refine g_top (b := (lg.getD i (0, none)).1) ((congrFun e6 i).trans hw.1) ?_
      refine g_aload_n C dX4_again_26 1 rfl rfl ?_
      refine g_get C 0 (f := 9) (v := .ref (m 7)) (Cn := RX4) (T := TX4) (N := 20) dX4_again_27 rfl rfl iX4_again_X4 (by decide) mX4_again_f29 rfl ?_
      refine g_iload_n C dX4_again_30 0 rfl rfl ?_
      refine g_iald C 7 0 (f := Mi 7) (N := 4200) i dX4_again_31 rfl rfl (by decide) (rfl) (by omega) ?_
      refine g_top (b := (-1)) ((congrFun e7 i).trans hw.2) ?_
      refine g_callVV C [0, 1, 2, 3, 4, 5, 6, 7, 8, 9, 10] [] [0, 1, 2, 3, 4, 5, 6, 7, 8, 9, 10] 0 4 (b := m 0) rfl rfl (As := [.int ((lg.getD i (0, none)).1), .int (-1)]) (rest := []) (wr := ([] : va_W)) (wf := fun M3 => (wM cy cz m M3)) dX4_again_32 gX4_again_X4_write rfl dmX4_write ⟨rfl, rfl, Nat.le_of_ble_eq_true rfl, Nat.le_of_ble_eq_true rfl, Nat.zero_le _, Nat.zero_le _⟩ (c_X4_write_rem l D cy cz m Mi ((sto (lg.take i)).1) ((lg.getD i (0, none)).1) c i2 hc) ⟨rfl, rfl, rfl, rfl, by decide, rfl, fun _ => rfl⟩ (Nat.le_of_ble_eq_true rfl) ?_
      intro M3 hp3
      show G x l (rmF 5 180) D 3 0 0 (wM cy cz m M3) [(2, .int (nI i)), (0, .ref (m 0)), (1, .int (nI n))] [] 35
      refine g_iinc C (q := 0) (v := nI (i + 1)) (lv' := [(2, .int (nI (i + 1))), (0, .ref (m 0)), (1, .int (nI n))]) dX4_again_35 rfl (nI_1 i) (by decide) rfl ?_
      refine g_goto C (tgt := 11) dX4_again_38 (by decide) ?_
      exact ih (i + 1, M3) ⟨by omega, by rw [take_snoc hi, sto_snoc]; unfold wr; rw [ho]; show RM ((sto (lg.take i)).1.rem (sto (lg.take i)).2 (lg.getD i (0, none)).1).1 M3; rw [← i3]; exact hp3.1, by rw [take_snoc hi, sto_snoc]; unfold wr; rw [ho]; show M3 0 2 = ((sto (lg.take i)).1.rem (sto (lg.take i)).2 (lg.getD i (0, none)).1).2; rw [← i3]; exact hp3.2.1, i4.tr hp3.2.2⟩ (by show n - (i + 1) < n - i; omega)
    · skip
      rw [ho] at hw
      unfold okE at hok
      rw [ho] at hok
      refine g_aload_n C dX4_again_19 1 rfl rfl ?_
      refine g_aload_n C dX4_again_20 1 rfl rfl ?_
      refine g_get C 0 (f := 8) (v := .ref (m 6)) (Cn := RX4) (T := TX4) (N := 20) dX4_again_21 rfl rfl iX4_again_X4 (by decide) mX4_again_f26 rfl ?_
      refine g_iload_n C dX4_again_24 0 rfl rfl ?_
      refine g_iald C 6 0 (f := Mi 6) (N := 4200) i dX4_again_25 rfl rfl (by decide) (rfl) (by omega) ?_
      refine g_top (b := (lg.getD i (0, none)).1) ((congrFun e6 i).trans hw.1) ?_
      refine g_aload_n C dX4_again_26 1 rfl rfl ?_
      refine g_get C 0 (f := 9) (v := .ref (m 7)) (Cn := RX4) (T := TX4) (N := 20) dX4_again_27 rfl rfl iX4_again_X4 (by decide) mX4_again_f29 rfl ?_
      refine g_iload_n C dX4_again_30 0 rfl rfl ?_
      refine g_iald C 7 0 (f := Mi 7) (N := 4200) i dX4_again_31 rfl rfl (by decide) (rfl) (by omega) ?_
      refine g_top (b := v) ((congrFun e7 i).trans hw.2) ?_
      refine g_callVV C [0, 1, 2, 3, 4, 5, 6, 7, 8, 9, 10] [] [0, 1, 2, 3, 4, 5, 6, 7, 8, 9, 10] 0 4 (b := m 0) rfl rfl (As := [.int ((lg.getD i (0, none)).1), .int v]) (rest := []) (wr := ([] : va_W)) (wf := fun M3 => (wM cy cz m M3)) dX4_again_32 gX4_again_X4_write rfl dmX4_write ⟨rfl, rfl, Nat.le_of_ble_eq_true rfl, Nat.le_of_ble_eq_true rfl, Nat.zero_le _, Nat.zero_le _⟩ (c_X4_write_put l D cy cz m Mi ((sto (lg.take i)).1) ((lg.getD i (0, none)).1) v i2 hok.2 hok.1) ⟨rfl, rfl, rfl, rfl, by decide, rfl, fun _ => rfl⟩ (Nat.le_of_ble_eq_true rfl) ?_
      intro M3 hp3
      show G x l (rmF 5 180) D 3 0 0 (wM cy cz m M3) [(2, .int (nI i)), (0, .ref (m 0)), (1, .int (nI n))] [] 35
      refine g_iinc C (q := 0) (v := nI (i + 1)) (lv' := [(2, .int (nI (i + 1))), (0, .ref (m 0)), (1, .int (nI n))]) dX4_again_35 rfl (nI_1 i) (by decide) rfl ?_
      refine g_goto C (tgt := 11) dX4_again_38 (by decide) ?_
      exact ih (i + 1, M3) ⟨by omega, by rw [take_snoc hi, sto_snoc]; unfold wr; rw [ho]; show RM ((sto (lg.take i)).1.put (sto (lg.take i)).2 (lg.getD i (0, none)).1 v).1 M3; rw [← i3]; exact hp3.1, by rw [take_snoc hi, sto_snoc]; unfold wr; rw [ho]; show M3 0 2 = ((sto (lg.take i)).1.put (sto (lg.take i)).2 (lg.getD i (0, none)).1 v).2; rw [← i3]; exact hp3.2.1, i4.tr hp3.2.2⟩ (by show n - (i + 1) < n - i; omega)

theorem mX4_note_f26 : Cond.fieldLink RX4 26 (TX4 8).1 (TX4 8).2.1 (TX4 8).2.2.1 ∈ wsX4_note := List.mem_of_getElem? (i := 1) rfl
theorem iX4_note_X4 : ∀ w ∈ wsX40, w ∈ wsX4_note := by decide +kernel
theorem mX4_note_f105 : Cond.fieldLink RX4 105 (TX4 10).1 (TX4 10).2.1 (TX4 10).2.2.1 ∈ wsX4_note := List.mem_of_getElem? (i := 2) rfl
theorem mX4_note_f29 : Cond.fieldLink RX4 29 (TX4 9).1 (TX4 9).2.1 (TX4 9).2.2.1 ∈ wsX4_note := List.mem_of_getElem? (i := 3) rfl
theorem mX4_note_f108 : Cond.fieldLink RX4 108 (TX4 14).1 (TX4 14).2.1 (TX4 14).2.2.1 ∈ wsX4_note := List.mem_of_getElem? (i := 4) rfl
theorem mX4_note_f32 : Cond.fieldLink RX4 32 (TX4 12).1 (TX4 12).2.1 (TX4 12).2.2.1 ∈ wsX4_note := List.mem_of_getElem? (i := 6) rfl
theorem mX4_note_f115 : Cond.fieldLink RX4 115 (TX4 13).1 (TX4 13).2.1 (TX4 13).2.2.1 ∈ wsX4_note := List.mem_of_getElem? (i := 7) rfl
theorem mX4_note_f112 : Cond.fieldLink RX4 112 (TX4 15).1 (TX4 15).2.1 (TX4 15).2.2.1 ∈ wsX4_note := List.mem_of_getElem? (i := 5) rfl
set_option maxHeartbeats 1600000 in
set_option maxRecDepth 20000 in
theorem c_X4_note_put (l : Launch) (D : va_G) (cy cz : ClassId) (m : Nat → Nat) (M : Mem) (T : TS) (k : Int32) (v : Int32) (hy : RY T M) (hN : T.log.length < 4200) (hl : T.w.length < 64) (he : okE T.A (k, some v)) : MV l yX4_note wsX4_note (rmF 5 180) D (tyL cy cz) [.ref (m 0), .int k, .int v] (wM cy cz m M) (fun (M1 : Mem) => RY (T.note (k, some v)) M1) (fun M1 => (wM cy cz m M1)) := by
  refine g_entV (cc := cX4_note) (maxL := 3) (own := RX4) (by decide) rfl rfl (Nat.le_of_ble_eq_true rfl) (fun x C ret => ?_)
  show G x l (rmF 5 180) D 3 0 0 (wM cy cz m M) [(0, .ref (m 0)), (1, .int k), (2, .int v)] [] 0
  have hgl := hy.2.2.2.2.2.2.2.2.2.2.gl
  have hsp := hy.2.2.2.2.2.2.2.1
  rcases ho : T.op with _ | n
  · skip
    rw [ho] at hsp
    refine g_aload_n C dX4_note_0 0 rfl rfl ?_
    refine g_get C 0 (f := 8) (v := .ref (m 6)) (Cn := RX4) (T := TX4) (N := 20) dX4_note_1 rfl rfl iX4_note_X4 (by decide) mX4_note_f26 rfl ?_
    refine g_aload_n C dX4_note_4 0 rfl rfl ?_
    refine g_get C 0 (f := 10) (v := .int (M 0 3)) (Cn := RX4) (T := TX4) (N := 20) dX4_note_5 rfl rfl iX4_note_X4 (by decide) mX4_note_f105 rfl ?_
    refine g_top (b := nI T.log.length) (hy.2.2.1) ?_
    refine g_iload_n C dX4_note_8 1 rfl rfl ?_
    refine g_iast C 6 0 (f := M 6) (N := 4200) (ws' := (wM cy cz m (ps M 6 T.log.length k))) T.log.length dX4_note_9 rfl rfl (by decide) (rfl) (hN) (wM_a6 cy cz m M T.log.length k) ?_
    refine g_aload_n C dX4_note_10 0 rfl rfl ?_
    refine g_get C 0 (f := 9) (v := .ref (m 7)) (Cn := RX4) (T := TX4) (N := 20) dX4_note_11 rfl rfl iX4_note_X4 (by decide) mX4_note_f29 rfl ?_
    refine g_aload_n C dX4_note_14 0 rfl rfl ?_
    refine g_get C 0 (f := 10) (v := .int (M 0 3)) (Cn := RX4) (T := TX4) (N := 20) dX4_note_15 rfl rfl iX4_note_X4 (by decide) mX4_note_f105 rfl ?_
    refine g_top (b := nI T.log.length) (hy.2.2.1) ?_
    refine g_iload_n C dX4_note_18 2 rfl rfl ?_
    refine g_iast C 7 0 (f := (ps M 6 T.log.length k) 7) (N := 4200) (ws' := (wM cy cz m (ps (ps M 6 T.log.length k) 7 T.log.length v))) T.log.length dX4_note_19 rfl rfl (by decide) (rfl) (hN) (wM_a7 cy cz m (ps M 6 T.log.length k) T.log.length v) ?_
    refine g_aload_n C dX4_note_20 0 rfl rfl ?_
    refine g_dup C dX4_note_21 rfl ?_
    refine g_get C 0 (f := 10) (v := .int (M 0 3)) (Cn := RX4) (T := TX4) (N := 20) dX4_note_22 rfl rfl iX4_note_X4 (by decide) mX4_note_f105 rfl ?_
    refine g_top (b := nI T.log.length) (hy.2.2.1) ?_
    refine g_iconst C (v := 1) dX4_note_25 (by decide) ?_
    refine g_iadd C dX4_note_26 ?_
    refine g_top (b := nI (T.log.length + 1)) (nI_1 _) ?_
    refine g_put C 0 (f := 10) (v := .int (nI (T.log.length + 1))) (ty := .int) (Cn := RX4) (T := TX4) (N := 20) (ws' := (wM cy cz m (ps (ps (ps M 6 T.log.length k) 7 T.log.length v) 0 3 (nI (T.log.length + 1))))) dX4_note_27 rfl rfl iX4_note_X4 tyX4 tyX4_ok nmX4 (by decide) mX4_note_f105 rfl rfl (rfl) (rfl) (Nat.le_of_ble_eq_true rfl) (wM_s3 cy cz m (ps (ps M 6 T.log.length k) 7 T.log.length v) (nI (T.log.length + 1))) ?_
    refine g_aload_n C dX4_note_30 0 rfl rfl ?_
    refine g_get C 0 (f := 14) (v := .int (M 0 6)) (Cn := RX4) (T := TX4) (N := 20) dX4_note_31 rfl rfl iX4_note_X4 (by decide) mX4_note_f108 rfl ?_
    refine g_top (b := 0) (hsp) ?_
    refine g_if_eq C (tgt := 50) dX4_note_34 (by decide) (fun c1 => ?_) (fun c1 => ?_)
    · skip
      refine g_aload_n C dX4_note_50 0 rfl rfl ?_
      refine g_get C 0 (f := 12) (v := .ref (m 8)) (Cn := RX4) (T := TX4) (N := 20) dX4_note_51 rfl rfl iX4_note_X4 (by decide) mX4_note_f32 rfl ?_
      refine g_aload_n C dX4_note_54 0 rfl rfl ?_
      refine g_get C 0 (f := 13) (v := .int (M 0 5)) (Cn := RX4) (T := TX4) (N := 20) dX4_note_55 rfl rfl iX4_note_X4 (by decide) mX4_note_f115 rfl ?_
      refine g_top (b := nI T.gs.length) (hy.2.2.2.2.2.1) ?_
      refine g_iconst C (v := 1) dX4_note_58 (by decide) ?_
      refine g_iast C 8 0 (f := (ps (ps (ps M 6 T.log.length k) 7 T.log.length v) 0 3 (nI (T.log.length + 1))) 8) (N := 64) (ws' := (wM cy cz m (ps (ps (ps (ps M 6 T.log.length k) 7 T.log.length v) 0 3 (nI (T.log.length + 1))) 8 T.gs.length 1))) T.gs.length dX4_note_59 rfl rfl (by decide) (rfl) (by omega) (wM_a8 cy cz m (ps (ps (ps M 6 T.log.length k) 7 T.log.length v) 0 3 (nI (T.log.length + 1))) T.gs.length 1) ?_
      refine g_aload_n C dX4_note_60 0 rfl rfl ?_
      refine g_dup C dX4_note_61 rfl ?_
      refine g_get C 0 (f := 13) (v := .int (M 0 5)) (Cn := RX4) (T := TX4) (N := 20) dX4_note_62 rfl rfl iX4_note_X4 (by decide) mX4_note_f115 rfl ?_
      refine g_top (b := nI T.gs.length) (hy.2.2.2.2.2.1) ?_
      refine g_iconst C (v := 1) dX4_note_65 (by decide) ?_
      refine g_iadd C dX4_note_66 ?_
      refine g_top (b := nI (T.gs.length + 1)) (nI_1 _) ?_
      refine g_put C 0 (f := 13) (v := .int (nI (T.gs.length + 1))) (ty := .int) (Cn := RX4) (T := TX4) (N := 20) (ws' := (wM cy cz m (ps (ps (ps (ps (ps M 6 T.log.length k) 7 T.log.length v) 0 3 (nI (T.log.length + 1))) 8 T.gs.length 1) 0 5 (nI (T.gs.length + 1))))) dX4_note_67 rfl rfl iX4_note_X4 tyX4 tyX4_ok nmX4 (by decide) mX4_note_f115 rfl rfl (rfl) (rfl) (Nat.le_of_ble_eq_true rfl) (wM_s5 cy cz m (ps (ps (ps (ps M 6 T.log.length k) 7 T.log.length v) 0 3 (nI (T.log.length + 1))) 8 T.gs.length 1) (nI (T.gs.length + 1))) ?_
      refine g_aload_n C dX4_note_70 0 rfl rfl ?_
      refine g_iload_n C dX4_note_71 1 rfl rfl ?_
      refine g_iload_n C dX4_note_72 2 rfl rfl ?_
      refine g_callVV C [0, 1, 2, 3, 4, 5, 6, 7, 8, 9, 10] [] [0, 1, 2, 3, 4, 5, 6, 7, 8, 9, 10] 0 4 (b := m 0) rfl rfl (As := [.int k, .int v]) (rest := []) (wr := ([] : va_W)) (wf := fun M3 => (wM cy cz m M3)) dX4_note_73 gX4_note_X4_write rfl dmX4_write ⟨rfl, rfl, Nat.le_of_ble_eq_true rfl, Nat.le_of_ble_eq_true rfl, Nat.zero_le _, Nat.zero_le _⟩ (c_X4_write_put l D cy cz m (ps (ps (ps (ps (ps M 6 T.log.length k) 7 T.log.length v) 0 3 (nI (T.log.length + 1))) 8 T.gs.length 1) 0 5 (nI (T.gs.length + 1))) T.A k v hy.1 he.2 he.1) ⟨rfl, rfl, rfl, rfl, by decide, rfl, fun _ => rfl⟩ (Nat.le_of_ble_eq_true rfl) ?_
      intro M3 hp3
      show G x l (rmF 5 180) D 3 0 0 (wM cy cz m M3) [(0, .ref (m 0)), (1, .int k), (2, .int v)] [] 76
      rw [show ((ps (ps (ps (ps (ps M 6 T.log.length k) 7 T.log.length v) 0 3 (nI (T.log.length + 1))) 8 T.gs.length 1) 0 5 (nI (T.gs.length + 1)))) 0 2 = T.E from hy.2.1] at hp3
      have hfin : RY (T.note (k, some v)) M3 := RY_note (M0 := (ps (ps (ps (ps (ps M 6 T.log.length k) 7 T.log.length v) 0 3 (nI (T.log.length + 1))) 8 T.gs.length 1) 0 5 (nI (T.gs.length + 1)))) hy hl he rfl rfl rfl rfl rfl rfl (by rw [ho]; exact ⟨rfl, rfl⟩) hp3.2.2 hp3.1 hp3.2.1
      exact ret M3 _ _ dX4_note_76 hfin
    · skip
      exact absurd rfl (c1)
  · skip
    rw [ho] at hsp
    refine g_aload_n C dX4_note_0 0 rfl rfl ?_
    refine g_get C 0 (f := 8) (v := .ref (m 6)) (Cn := RX4) (T := TX4) (N := 20) dX4_note_1 rfl rfl iX4_note_X4 (by decide) mX4_note_f26 rfl ?_
    refine g_aload_n C dX4_note_4 0 rfl rfl ?_
    refine g_get C 0 (f := 10) (v := .int (M 0 3)) (Cn := RX4) (T := TX4) (N := 20) dX4_note_5 rfl rfl iX4_note_X4 (by decide) mX4_note_f105 rfl ?_
    refine g_top (b := nI T.log.length) (hy.2.2.1) ?_
    refine g_iload_n C dX4_note_8 1 rfl rfl ?_
    refine g_iast C 6 0 (f := M 6) (N := 4200) (ws' := (wM cy cz m (ps M 6 T.log.length k))) T.log.length dX4_note_9 rfl rfl (by decide) (rfl) (hN) (wM_a6 cy cz m M T.log.length k) ?_
    refine g_aload_n C dX4_note_10 0 rfl rfl ?_
    refine g_get C 0 (f := 9) (v := .ref (m 7)) (Cn := RX4) (T := TX4) (N := 20) dX4_note_11 rfl rfl iX4_note_X4 (by decide) mX4_note_f29 rfl ?_
    refine g_aload_n C dX4_note_14 0 rfl rfl ?_
    refine g_get C 0 (f := 10) (v := .int (M 0 3)) (Cn := RX4) (T := TX4) (N := 20) dX4_note_15 rfl rfl iX4_note_X4 (by decide) mX4_note_f105 rfl ?_
    refine g_top (b := nI T.log.length) (hy.2.2.1) ?_
    refine g_iload_n C dX4_note_18 2 rfl rfl ?_
    refine g_iast C 7 0 (f := (ps M 6 T.log.length k) 7) (N := 4200) (ws' := (wM cy cz m (ps (ps M 6 T.log.length k) 7 T.log.length v))) T.log.length dX4_note_19 rfl rfl (by decide) (rfl) (hN) (wM_a7 cy cz m (ps M 6 T.log.length k) T.log.length v) ?_
    refine g_aload_n C dX4_note_20 0 rfl rfl ?_
    refine g_dup C dX4_note_21 rfl ?_
    refine g_get C 0 (f := 10) (v := .int (M 0 3)) (Cn := RX4) (T := TX4) (N := 20) dX4_note_22 rfl rfl iX4_note_X4 (by decide) mX4_note_f105 rfl ?_
    refine g_top (b := nI T.log.length) (hy.2.2.1) ?_
    refine g_iconst C (v := 1) dX4_note_25 (by decide) ?_
    refine g_iadd C dX4_note_26 ?_
    refine g_top (b := nI (T.log.length + 1)) (nI_1 _) ?_
    refine g_put C 0 (f := 10) (v := .int (nI (T.log.length + 1))) (ty := .int) (Cn := RX4) (T := TX4) (N := 20) (ws' := (wM cy cz m (ps (ps (ps M 6 T.log.length k) 7 T.log.length v) 0 3 (nI (T.log.length + 1))))) dX4_note_27 rfl rfl iX4_note_X4 tyX4 tyX4_ok nmX4 (by decide) mX4_note_f105 rfl rfl (rfl) (rfl) (Nat.le_of_ble_eq_true rfl) (wM_s3 cy cz m (ps (ps M 6 T.log.length k) 7 T.log.length v) (nI (T.log.length + 1))) ?_
    refine g_aload_n C dX4_note_30 0 rfl rfl ?_
    refine g_get C 0 (f := 14) (v := .int (M 0 6)) (Cn := RX4) (T := TX4) (N := 20) dX4_note_31 rfl rfl iX4_note_X4 (by decide) mX4_note_f108 rfl ?_
    refine g_top (b := 1) (hsp) ?_
    refine g_if_eq C (tgt := 50) dX4_note_34 (by decide) (fun c1 => ?_) (fun c1 => ?_)
    · skip
      exact absurd c1 (by decide)
    · skip
      refine g_aload_n C dX4_note_37 0 rfl rfl ?_
      refine g_dup C dX4_note_38 rfl ?_
      refine g_get C 0 (f := 15) (v := .int (M 0 7)) (Cn := RX4) (T := TX4) (N := 20) dX4_note_39 rfl rfl iX4_note_X4 (by decide) mX4_note_f112 rfl ?_
      refine g_top (b := nI n) (hy.2.2.2.2.2.2.2.2.1 n ho) ?_
      refine g_iconst C (v := 1) dX4_note_42 (by decide) ?_
      refine g_iadd C dX4_note_43 ?_
      refine g_top (b := nI (n + 1)) (nI_1 _) ?_
      refine g_put C 0 (f := 15) (v := .int (nI (n + 1))) (ty := .int) (Cn := RX4) (T := TX4) (N := 20) (ws' := (wM cy cz m (ps (ps (ps (ps M 6 T.log.length k) 7 T.log.length v) 0 3 (nI (T.log.length + 1))) 0 7 (nI (n + 1))))) dX4_note_44 rfl rfl iX4_note_X4 tyX4 tyX4_ok nmX4 (by decide) mX4_note_f112 rfl rfl (rfl) (rfl) (Nat.le_of_ble_eq_true rfl) (wM_s7 cy cz m (ps (ps (ps M 6 T.log.length k) 7 T.log.length v) 0 3 (nI (T.log.length + 1))) (nI (n + 1))) ?_
      refine g_goto C (tgt := 70) dX4_note_47 (by decide) ?_
      refine g_aload_n C dX4_note_70 0 rfl rfl ?_
      refine g_iload_n C dX4_note_71 1 rfl rfl ?_
      refine g_iload_n C dX4_note_72 2 rfl rfl ?_
      refine g_callVV C [0, 1, 2, 3, 4, 5, 6, 7, 8, 9, 10] [] [0, 1, 2, 3, 4, 5, 6, 7, 8, 9, 10] 0 4 (b := m 0) rfl rfl (As := [.int k, .int v]) (rest := []) (wr := ([] : va_W)) (wf := fun M3 => (wM cy cz m M3)) dX4_note_73 gX4_note_X4_write rfl dmX4_write ⟨rfl, rfl, Nat.le_of_ble_eq_true rfl, Nat.le_of_ble_eq_true rfl, Nat.zero_le _, Nat.zero_le _⟩ (c_X4_write_put l D cy cz m (ps (ps (ps (ps M 6 T.log.length k) 7 T.log.length v) 0 3 (nI (T.log.length + 1))) 0 7 (nI (n + 1))) T.A k v hy.1 he.2 he.1) ⟨rfl, rfl, rfl, rfl, by decide, rfl, fun _ => rfl⟩ (Nat.le_of_ble_eq_true rfl) ?_
      intro M3 hp3
      show G x l (rmF 5 180) D 3 0 0 (wM cy cz m M3) [(0, .ref (m 0)), (1, .int k), (2, .int v)] [] 76
      rw [show ((ps (ps (ps (ps M 6 T.log.length k) 7 T.log.length v) 0 3 (nI (T.log.length + 1))) 0 7 (nI (n + 1)))) 0 2 = T.E from hy.2.1] at hp3
      have hfin : RY (T.note (k, some v)) M3 := RY_note (M0 := (ps (ps (ps (ps M 6 T.log.length k) 7 T.log.length v) 0 3 (nI (T.log.length + 1))) 0 7 (nI (n + 1)))) hy hl he rfl rfl rfl rfl rfl rfl (by rw [ho]; exact ⟨rfl, rfl, rfl⟩) hp3.2.2 hp3.1 hp3.2.1
      exact ret M3 _ _ dX4_note_76 hfin

set_option maxHeartbeats 1600000 in
set_option maxRecDepth 20000 in
theorem c_X4_note_rem (l : Launch) (D : va_G) (cy cz : ClassId) (m : Nat → Nat) (M : Mem) (T : TS) (k : Int32) (c : Nat) (hy : RY T M) (hN : T.log.length < 4200) (hl : T.w.length < 64) (hf : T.A.fnd k = some c) : MV l yX4_note wsX4_note (rmF 5 180) D (tyL cy cz) [.ref (m 0), .int k, .int (-1)] (wM cy cz m M) (fun (M1 : Mem) => RY (T.note (k, none)) M1) (fun M1 => (wM cy cz m M1)) := by
  refine g_entV (cc := cX4_note) (maxL := 3) (own := RX4) (by decide) rfl rfl (Nat.le_of_ble_eq_true rfl) (fun x C ret => ?_)
  show G x l (rmF 5 180) D 3 0 0 (wM cy cz m M) [(0, .ref (m 0)), (1, .int k), (2, .int (-1))] [] 0
  have hgl := hy.2.2.2.2.2.2.2.2.2.2.gl
  have hsp := hy.2.2.2.2.2.2.2.1
  rcases ho : T.op with _ | n
  · skip
    rw [ho] at hsp
    refine g_aload_n C dX4_note_0 0 rfl rfl ?_
    refine g_get C 0 (f := 8) (v := .ref (m 6)) (Cn := RX4) (T := TX4) (N := 20) dX4_note_1 rfl rfl iX4_note_X4 (by decide) mX4_note_f26 rfl ?_
    refine g_aload_n C dX4_note_4 0 rfl rfl ?_
    refine g_get C 0 (f := 10) (v := .int (M 0 3)) (Cn := RX4) (T := TX4) (N := 20) dX4_note_5 rfl rfl iX4_note_X4 (by decide) mX4_note_f105 rfl ?_
    refine g_top (b := nI T.log.length) (hy.2.2.1) ?_
    refine g_iload_n C dX4_note_8 1 rfl rfl ?_
    refine g_iast C 6 0 (f := M 6) (N := 4200) (ws' := (wM cy cz m (ps M 6 T.log.length k))) T.log.length dX4_note_9 rfl rfl (by decide) (rfl) (hN) (wM_a6 cy cz m M T.log.length k) ?_
    refine g_aload_n C dX4_note_10 0 rfl rfl ?_
    refine g_get C 0 (f := 9) (v := .ref (m 7)) (Cn := RX4) (T := TX4) (N := 20) dX4_note_11 rfl rfl iX4_note_X4 (by decide) mX4_note_f29 rfl ?_
    refine g_aload_n C dX4_note_14 0 rfl rfl ?_
    refine g_get C 0 (f := 10) (v := .int (M 0 3)) (Cn := RX4) (T := TX4) (N := 20) dX4_note_15 rfl rfl iX4_note_X4 (by decide) mX4_note_f105 rfl ?_
    refine g_top (b := nI T.log.length) (hy.2.2.1) ?_
    refine g_iload_n C dX4_note_18 2 rfl rfl ?_
    refine g_iast C 7 0 (f := (ps M 6 T.log.length k) 7) (N := 4200) (ws' := (wM cy cz m (ps (ps M 6 T.log.length k) 7 T.log.length (-1)))) T.log.length dX4_note_19 rfl rfl (by decide) (rfl) (hN) (wM_a7 cy cz m (ps M 6 T.log.length k) T.log.length (-1)) ?_
    refine g_aload_n C dX4_note_20 0 rfl rfl ?_
    refine g_dup C dX4_note_21 rfl ?_
    refine g_get C 0 (f := 10) (v := .int (M 0 3)) (Cn := RX4) (T := TX4) (N := 20) dX4_note_22 rfl rfl iX4_note_X4 (by decide) mX4_note_f105 rfl ?_
    refine g_top (b := nI T.log.length) (hy.2.2.1) ?_
    refine g_iconst C (v := 1) dX4_note_25 (by decide) ?_
    refine g_iadd C dX4_note_26 ?_
    refine g_top (b := nI (T.log.length + 1)) (nI_1 _) ?_
    refine g_put C 0 (f := 10) (v := .int (nI (T.log.length + 1))) (ty := .int) (Cn := RX4) (T := TX4) (N := 20) (ws' := (wM cy cz m (ps (ps (ps M 6 T.log.length k) 7 T.log.length (-1)) 0 3 (nI (T.log.length + 1))))) dX4_note_27 rfl rfl iX4_note_X4 tyX4 tyX4_ok nmX4 (by decide) mX4_note_f105 rfl rfl (rfl) (rfl) (Nat.le_of_ble_eq_true rfl) (wM_s3 cy cz m (ps (ps M 6 T.log.length k) 7 T.log.length (-1)) (nI (T.log.length + 1))) ?_
    refine g_aload_n C dX4_note_30 0 rfl rfl ?_
    refine g_get C 0 (f := 14) (v := .int (M 0 6)) (Cn := RX4) (T := TX4) (N := 20) dX4_note_31 rfl rfl iX4_note_X4 (by decide) mX4_note_f108 rfl ?_
    refine g_top (b := 0) (hsp) ?_
    refine g_if_eq C (tgt := 50) dX4_note_34 (by decide) (fun c1 => ?_) (fun c1 => ?_)
    · skip
      refine g_aload_n C dX4_note_50 0 rfl rfl ?_
      refine g_get C 0 (f := 12) (v := .ref (m 8)) (Cn := RX4) (T := TX4) (N := 20) dX4_note_51 rfl rfl iX4_note_X4 (by decide) mX4_note_f32 rfl ?_
      refine g_aload_n C dX4_note_54 0 rfl rfl ?_
      refine g_get C 0 (f := 13) (v := .int (M 0 5)) (Cn := RX4) (T := TX4) (N := 20) dX4_note_55 rfl rfl iX4_note_X4 (by decide) mX4_note_f115 rfl ?_
      refine g_top (b := nI T.gs.length) (hy.2.2.2.2.2.1) ?_
      refine g_iconst C (v := 1) dX4_note_58 (by decide) ?_
      refine g_iast C 8 0 (f := (ps (ps (ps M 6 T.log.length k) 7 T.log.length (-1)) 0 3 (nI (T.log.length + 1))) 8) (N := 64) (ws' := (wM cy cz m (ps (ps (ps (ps M 6 T.log.length k) 7 T.log.length (-1)) 0 3 (nI (T.log.length + 1))) 8 T.gs.length 1))) T.gs.length dX4_note_59 rfl rfl (by decide) (rfl) (by omega) (wM_a8 cy cz m (ps (ps (ps M 6 T.log.length k) 7 T.log.length (-1)) 0 3 (nI (T.log.length + 1))) T.gs.length 1) ?_
      refine g_aload_n C dX4_note_60 0 rfl rfl ?_
      refine g_dup C dX4_note_61 rfl ?_
      refine g_get C 0 (f := 13) (v := .int (M 0 5)) (Cn := RX4) (T := TX4) (N := 20) dX4_note_62 rfl rfl iX4_note_X4 (by decide) mX4_note_f115 rfl ?_
      refine g_top (b := nI T.gs.length) (hy.2.2.2.2.2.1) ?_
      refine g_iconst C (v := 1) dX4_note_65 (by decide) ?_
      refine g_iadd C dX4_note_66 ?_
      refine g_top (b := nI (T.gs.length + 1)) (nI_1 _) ?_
      refine g_put C 0 (f := 13) (v := .int (nI (T.gs.length + 1))) (ty := .int) (Cn := RX4) (T := TX4) (N := 20) (ws' := (wM cy cz m (ps (ps (ps (ps (ps M 6 T.log.length k) 7 T.log.length (-1)) 0 3 (nI (T.log.length + 1))) 8 T.gs.length 1) 0 5 (nI (T.gs.length + 1))))) dX4_note_67 rfl rfl iX4_note_X4 tyX4 tyX4_ok nmX4 (by decide) mX4_note_f115 rfl rfl (rfl) (rfl) (Nat.le_of_ble_eq_true rfl) (wM_s5 cy cz m (ps (ps (ps (ps M 6 T.log.length k) 7 T.log.length (-1)) 0 3 (nI (T.log.length + 1))) 8 T.gs.length 1) (nI (T.gs.length + 1))) ?_
      refine g_aload_n C dX4_note_70 0 rfl rfl ?_
      refine g_iload_n C dX4_note_71 1 rfl rfl ?_
      refine g_iload_n C dX4_note_72 2 rfl rfl ?_
      refine g_callVV C [0, 1, 2, 3, 4, 5, 6, 7, 8, 9, 10] [] [0, 1, 2, 3, 4, 5, 6, 7, 8, 9, 10] 0 4 (b := m 0) rfl rfl (As := [.int k, .int (-1)]) (rest := []) (wr := ([] : va_W)) (wf := fun M3 => (wM cy cz m M3)) dX4_note_73 gX4_note_X4_write rfl dmX4_write ⟨rfl, rfl, Nat.le_of_ble_eq_true rfl, Nat.le_of_ble_eq_true rfl, Nat.zero_le _, Nat.zero_le _⟩ (c_X4_write_rem l D cy cz m (ps (ps (ps (ps (ps M 6 T.log.length k) 7 T.log.length (-1)) 0 3 (nI (T.log.length + 1))) 8 T.gs.length 1) 0 5 (nI (T.gs.length + 1))) T.A k c hy.1 hf) ⟨rfl, rfl, rfl, rfl, by decide, rfl, fun _ => rfl⟩ (Nat.le_of_ble_eq_true rfl) ?_
      intro M3 hp3
      show G x l (rmF 5 180) D 3 0 0 (wM cy cz m M3) [(0, .ref (m 0)), (1, .int k), (2, .int (-1))] [] 76
      rw [show ((ps (ps (ps (ps (ps M 6 T.log.length k) 7 T.log.length (-1)) 0 3 (nI (T.log.length + 1))) 8 T.gs.length 1) 0 5 (nI (T.gs.length + 1)))) 0 2 = T.E from hy.2.1] at hp3
      have hfin : RY (T.note (k, none)) M3 := RY_note (M0 := (ps (ps (ps (ps (ps M 6 T.log.length k) 7 T.log.length (-1)) 0 3 (nI (T.log.length + 1))) 8 T.gs.length 1) 0 5 (nI (T.gs.length + 1)))) hy hl (o := none) (fun w => by rw [show T.A.fnd k = some c from hf] at w; cases w) rfl rfl rfl rfl rfl rfl (by rw [ho]; exact ⟨rfl, rfl⟩) hp3.2.2 hp3.1 hp3.2.1
      exact ret M3 _ _ dX4_note_76 hfin
    · skip
      exact absurd rfl (c1)
  · skip
    rw [ho] at hsp
    refine g_aload_n C dX4_note_0 0 rfl rfl ?_
    refine g_get C 0 (f := 8) (v := .ref (m 6)) (Cn := RX4) (T := TX4) (N := 20) dX4_note_1 rfl rfl iX4_note_X4 (by decide) mX4_note_f26 rfl ?_
    refine g_aload_n C dX4_note_4 0 rfl rfl ?_
    refine g_get C 0 (f := 10) (v := .int (M 0 3)) (Cn := RX4) (T := TX4) (N := 20) dX4_note_5 rfl rfl iX4_note_X4 (by decide) mX4_note_f105 rfl ?_
    refine g_top (b := nI T.log.length) (hy.2.2.1) ?_
    refine g_iload_n C dX4_note_8 1 rfl rfl ?_
    refine g_iast C 6 0 (f := M 6) (N := 4200) (ws' := (wM cy cz m (ps M 6 T.log.length k))) T.log.length dX4_note_9 rfl rfl (by decide) (rfl) (hN) (wM_a6 cy cz m M T.log.length k) ?_
    refine g_aload_n C dX4_note_10 0 rfl rfl ?_
    refine g_get C 0 (f := 9) (v := .ref (m 7)) (Cn := RX4) (T := TX4) (N := 20) dX4_note_11 rfl rfl iX4_note_X4 (by decide) mX4_note_f29 rfl ?_
    refine g_aload_n C dX4_note_14 0 rfl rfl ?_
    refine g_get C 0 (f := 10) (v := .int (M 0 3)) (Cn := RX4) (T := TX4) (N := 20) dX4_note_15 rfl rfl iX4_note_X4 (by decide) mX4_note_f105 rfl ?_
    refine g_top (b := nI T.log.length) (hy.2.2.1) ?_
    refine g_iload_n C dX4_note_18 2 rfl rfl ?_
    refine g_iast C 7 0 (f := (ps M 6 T.log.length k) 7) (N := 4200) (ws' := (wM cy cz m (ps (ps M 6 T.log.length k) 7 T.log.length (-1)))) T.log.length dX4_note_19 rfl rfl (by decide) (rfl) (hN) (wM_a7 cy cz m (ps M 6 T.log.length k) T.log.length (-1)) ?_
    refine g_aload_n C dX4_note_20 0 rfl rfl ?_
    refine g_dup C dX4_note_21 rfl ?_
    refine g_get C 0 (f := 10) (v := .int (M 0 3)) (Cn := RX4) (T := TX4) (N := 20) dX4_note_22 rfl rfl iX4_note_X4 (by decide) mX4_note_f105 rfl ?_
    refine g_top (b := nI T.log.length) (hy.2.2.1) ?_
    refine g_iconst C (v := 1) dX4_note_25 (by decide) ?_
    refine g_iadd C dX4_note_26 ?_
    refine g_top (b := nI (T.log.length + 1)) (nI_1 _) ?_
    refine g_put C 0 (f := 10) (v := .int (nI (T.log.length + 1))) (ty := .int) (Cn := RX4) (T := TX4) (N := 20) (ws' := (wM cy cz m (ps (ps (ps M 6 T.log.length k) 7 T.log.length (-1)) 0 3 (nI (T.log.length + 1))))) dX4_note_27 rfl rfl iX4_note_X4 tyX4 tyX4_ok nmX4 (by decide) mX4_note_f105 rfl rfl (rfl) (rfl) (Nat.le_of_ble_eq_true rfl) (wM_s3 cy cz m (ps (ps M 6 T.log.length k) 7 T.log.length (-1)) (nI (T.log.length + 1))) ?_
    refine g_aload_n C dX4_note_30 0 rfl rfl ?_
    refine g_get C 0 (f := 14) (v := .int (M 0 6)) (Cn := RX4) (T := TX4) (N := 20) dX4_note_31 rfl rfl iX4_note_X4 (by decide) mX4_note_f108 rfl ?_
    refine g_top (b := 1) (hsp) ?_
    refine g_if_eq C (tgt := 50) dX4_note_34 (by decide) (fun c1 => ?_) (fun c1 => ?_)
    · skip
      exact absurd c1 (by decide)
    · skip
      refine g_aload_n C dX4_note_37 0 rfl rfl ?_
      refine g_dup C dX4_note_38 rfl ?_
      refine g_get C 0 (f := 15) (v := .int (M 0 7)) (Cn := RX4) (T := TX4) (N := 20) dX4_note_39 rfl rfl iX4_note_X4 (by decide) mX4_note_f112 rfl ?_
      refine g_top (b := nI n) (hy.2.2.2.2.2.2.2.2.1 n ho) ?_
      refine g_iconst C (v := 1) dX4_note_42 (by decide) ?_
      refine g_iadd C dX4_note_43 ?_
      refine g_top (b := nI (n + 1)) (nI_1 _) ?_
      refine g_put C 0 (f := 15) (v := .int (nI (n + 1))) (ty := .int) (Cn := RX4) (T := TX4) (N := 20) (ws' := (wM cy cz m (ps (ps (ps (ps M 6 T.log.length k) 7 T.log.length (-1)) 0 3 (nI (T.log.length + 1))) 0 7 (nI (n + 1))))) dX4_note_44 rfl rfl iX4_note_X4 tyX4 tyX4_ok nmX4 (by decide) mX4_note_f112 rfl rfl (rfl) (rfl) (Nat.le_of_ble_eq_true rfl) (wM_s7 cy cz m (ps (ps (ps M 6 T.log.length k) 7 T.log.length (-1)) 0 3 (nI (T.log.length + 1))) (nI (n + 1))) ?_
      refine g_goto C (tgt := 70) dX4_note_47 (by decide) ?_
      refine g_aload_n C dX4_note_70 0 rfl rfl ?_
      refine g_iload_n C dX4_note_71 1 rfl rfl ?_
      refine g_iload_n C dX4_note_72 2 rfl rfl ?_
      refine g_callVV C [0, 1, 2, 3, 4, 5, 6, 7, 8, 9, 10] [] [0, 1, 2, 3, 4, 5, 6, 7, 8, 9, 10] 0 4 (b := m 0) rfl rfl (As := [.int k, .int (-1)]) (rest := []) (wr := ([] : va_W)) (wf := fun M3 => (wM cy cz m M3)) dX4_note_73 gX4_note_X4_write rfl dmX4_write ⟨rfl, rfl, Nat.le_of_ble_eq_true rfl, Nat.le_of_ble_eq_true rfl, Nat.zero_le _, Nat.zero_le _⟩ (c_X4_write_rem l D cy cz m (ps (ps (ps (ps M 6 T.log.length k) 7 T.log.length (-1)) 0 3 (nI (T.log.length + 1))) 0 7 (nI (n + 1))) T.A k c hy.1 hf) ⟨rfl, rfl, rfl, rfl, by decide, rfl, fun _ => rfl⟩ (Nat.le_of_ble_eq_true rfl) ?_
      intro M3 hp3
      show G x l (rmF 5 180) D 3 0 0 (wM cy cz m M3) [(0, .ref (m 0)), (1, .int k), (2, .int (-1))] [] 76
      rw [show ((ps (ps (ps (ps M 6 T.log.length k) 7 T.log.length (-1)) 0 3 (nI (T.log.length + 1))) 0 7 (nI (n + 1)))) 0 2 = T.E from hy.2.1] at hp3
      have hfin : RY (T.note (k, none)) M3 := RY_note (M0 := (ps (ps (ps (ps M 6 T.log.length k) 7 T.log.length (-1)) 0 3 (nI (T.log.length + 1))) 0 7 (nI (n + 1)))) hy hl (o := none) (fun w => by rw [show T.A.fnd k = some c from hf] at w; cases w) rfl rfl rfl rfl rfl rfl (by rw [ho]; exact ⟨rfl, rfl, rfl⟩) hp3.2.2 hp3.1 hp3.2.1
      exact ret M3 _ _ dX4_note_76 hfin

theorem mX4_isLogFull_f105 : Cond.fieldLink RX4 105 (TX4 10).1 (TX4 10).2.1 (TX4 10).2.2.1 ∈ wsX4_isLogFull := List.mem_of_getElem? (i := 1) rfl
theorem iX4_isLogFull_X4 : ∀ w ∈ wsX40, w ∈ wsX4_isLogFull := by decide +kernel
theorem mX4_isLogFull_f122 : Cond.fieldLink RX4 122 (TX4 11).1 (TX4 11).2.1 (TX4 11).2.2.1 ∈ wsX4_isLogFull := List.mem_of_getElem? (i := 2) rfl
set_option maxHeartbeats 1600000 in
set_option maxRecDepth 20000 in
theorem c_X4_isLogFull (l : Launch) (D : va_G) (cy cz : ClassId) (m : Nat → Nat) (M : Mem) (a : Nat) (b : Nat) (ha : M 0 3 = nI (a + b)) (hb : M 0 4 = nI a) (hl : b ≤ 64) : MId l yX4_isLogFull wsX4_isLogFull (rmF 0 0) D (tyL cy cz) [.ref (m 0)] (wM cy cz m M) (if 64 ≤ b then 1 else 0) (wM cy cz m M) := by
  refine g_entZ (cc := cX4_isLogFull) (maxL := 1) (own := RX4) (by decide) rfl rfl (Nat.le_of_ble_eq_true rfl) (fun x C ret => ?_)
  show G x l (rmF 0 0) D 1 0 0 (wM cy cz m M) [(0, .ref (m 0))] [] 0
  refine g_aload_n C dX4_isLogFull_0 0 rfl rfl ?_
  refine g_get C 0 (f := 10) (v := .int (M 0 3)) (Cn := RX4) (T := TX4) (N := 20) dX4_isLogFull_1 rfl rfl iX4_isLogFull_X4 (by decide) mX4_isLogFull_f105 rfl ?_
  refine g_top (b := nI (a + b)) (ha) ?_
  refine g_aload_n C dX4_isLogFull_4 0 rfl rfl ?_
  refine g_get C 0 (f := 11) (v := .int (M 0 4)) (Cn := RX4) (T := TX4) (N := 20) dX4_isLogFull_5 rfl rfl iX4_isLogFull_X4 (by decide) mX4_isLogFull_f122 rfl ?_
  refine g_top (b := nI a) (hb) ?_
  refine g_isub C dX4_isLogFull_8 ?_
  refine g_top (b := nI b) ((pk_sub (by omega)).trans (congrArg nI (by omega))) ?_
  refine g_bipush C (v := 64) dX4_isLogFull_9 (by decide) ?_
  refine g_icmp_ne C (tgt := 18) dX4_isLogFull_11 (by decide) (fun c1 => ?_) (fun c1 => ?_)
  · skip
    have h1 : ¬ 64 ≤ b := fun w => c1 (by rw [show b = 64 by omega]; rfl)
    refine g_iconst C (v := 0) dX4_isLogFull_18 (by decide) ?_
    exact ret _ () _ _ dX4_isLogFull_19 (by decide) (by rw [if_neg h1])
  · skip
    have h1 : 64 ≤ b := by have := (nI_eq (b := 64) (by omega) (by decide)).mp c1; omega
    refine g_iconst C (v := 1) dX4_isLogFull_14 (by decide) ?_
    refine g_goto C (tgt := 19) dX4_isLogFull_15 (by decide) ?_
    exact ret _ () _ _ dX4_isLogFull_19 (by decide) (by rw [if_pos h1])
