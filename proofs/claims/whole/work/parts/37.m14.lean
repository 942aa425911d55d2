/-! made by wip/whole/gen.py and m1.py -/
theorem gl_snoc (gs : List Nat) (n : Nat) : nI (gs.length + 1) = nI (gs ++ [n]).length := by simp
theorem g8_snoc {M : Mem} {gs : List Nat} {n : Nat} (h : ∀ i, i < gs.length → M 8 i = nI (gs.getD i 0)) : ∀ i, i < (gs ++ [n]).length → upd (M 8) gs.length (nI n) i = nI ((gs ++ [n]).getD i 0) := by
  intro i hi
  by_cases e : i = gs.length
  · subst e; rw [pk_us, getD_snoc_r]
  · have hi2 : i < gs.length := by simp at hi; omega
    rw [pk_un e, getD_snoc_l hi2]; exact h i hi2
theorem sum_snoc {w n : Nat} {gs : List Nat} (h : w = gs.sum + n) : w = (gs ++ [n]).sum + 0 := by simp; omega
theorem ge_snoc {gs : List Nat} {n : Nat} (h : ∀ g, g ∈ gs → 1 ≤ g) (hn : 1 ≤ n) : ∀ g, g ∈ gs ++ [n] → 1 ≤ g := fun g hg => by
  rcases List.mem_append.mp hg with w | w
  · exact h g w
  · rw [List.mem_singleton.mp w]; exact hn
theorem mX4_put_k126 : Cond.constant RX4 126 (-2000000001) ∈ wsX4_put := List.mem_of_getElem? (i := 2) rfl
theorem mX4_put_k125 : Cond.constant RX4 125 (1000000000) ∈ wsX4_put := List.mem_of_getElem? (i := 1) rfl
theorem mX4_put_k44 : Cond.constant RX4 44 (-2000000005) ∈ wsX4_put := List.mem_of_getElem? (i := 3) rfl
theorem mX4_put_f16 : Cond.fieldLink RX4 16 (TX4 2).1 (TX4 2).2.1 (TX4 2).2.2.1 ∈ wsX4_put := List.mem_of_getElem? (i := 4) rfl
theorem iX4_put_X4 : ∀ w ∈ wsX40, w ∈ wsX4_put := by decide +kernel
theorem mX4_put_k132 : Cond.constant RX4 132 (-2000000004) ∈ wsX4_put := List.mem_of_getElem? (i := 6) rfl
theorem mX4_put_k127 : Cond.constant RX4 127 (-2000000003) ∈ wsX4_put := List.mem_of_getElem? (i := 5) rfl
set_option maxHeartbeats 1600000 in
set_option maxRecDepth 20000 in
theorem c_X4_put (l : Launch) (D : va_G) (cy cz : ClassId) (m : Nat → Nat) (M : Mem) (T : TS) (k : Int32) (v : Int32) (hy : RY T M) (hN : T.log.length < 4200) : MI l yX4_put wsX4_put (rmF 6 216) D (tyL cy cz) [.ref (m 0), .int k, .int v] (wM cy cz m M) (fun (r : Int32) (M1 : Mem) => r = (aPut T k v).1 ∧ RY (aPut T k v).2 M1) (fun M1 => (wM cy cz m M1)) := by
  refine g_entI (cc := cX4_put) (maxL := 4) (own := RX4) (by decide) rfl rfl (Nat.le_of_ble_eq_true rfl) (fun x C ret => ?_)
  show G x l (rmF 6 216) D 4 0 0 (wM cy cz m M) [(0, .ref (m 0)), (1, .int k), (2, .int v)] [] 0
  refine g_iload_n C dX4_put_0 2 rfl rfl ?_
  refine g_if_lt C (tgt := 10) dX4_put_1 (by decide) (fun c1 => ?_) (fun c1 => ?_)
  · skip
    refine g_ldc C (v := (-2000000001)) mX4_put_k126 dX4_put_10 ?_
    exact ret _ M _ _ dX4_put_12 (by rw [aPut_bad (Or.inl c1)]; exact ⟨rfl, hy⟩)
  · skip
    refine g_iload_n C dX4_put_4 2 rfl rfl ?_
    refine g_ldc C (v := 1000000000) mX4_put_k125 dX4_put_5 ?_
    refine g_icmp_le C (tgt := 13) dX4_put_7 (by decide) (fun c2 => ?_) (fun c2 => ?_)
    · skip
      have hv : ¬ (v < 0 ∨ 1000000000 < v) := fun w => w.elim c1 (fun w => absurd c2 (Int32.not_le.mpr w))
      refine g_aload_n C dX4_put_13 0 rfl rfl ?_
      refine g_iload_n C dX4_put_14 1 rfl rfl ?_
      refine g_callIV C [0, 1, 2, 3, 4, 5, 6, 7, 8, 9, 10] [] [0, 1, 2, 3, 4, 5, 6, 7, 8, 9, 10] 0 4 (b := m 0) rfl rfl (As := [.int k]) (rest := []) (wr := ([] : va_W)) (wf := fun _ => (wM cy cz m M)) dX4_put_15 gX4_put_X4_placeOf rfl dmX4_placeOf ⟨rfl, rfl, Nat.le_of_ble_eq_true rfl, Nat.le_of_ble_eq_true rfl, Nat.zero_le _, Nat.zero_le _⟩ (c_X4_placeOf l D cy cz m M T.A k hy.1) ⟨rfl, rfl, rfl, rfl, by decide, rfl, fun _ => rfl⟩ (Nat.le_of_ble_eq_true rfl) ?_
      rintro _ - rfl
      show G x l (rmF 6 216) D 4 0 0 (wM cy cz m M) [(0, .ref (m 0)), (1, .int k), (2, .int v)] [.int (ocI (T.A.fnd k))] 18
      rcases hf : T.A.fnd k with _ | c
      · skip
        have hla := hy.1.1.la (hy.1.adlt k)
        have hsz := hy.1.1.sz4 hla
        show G x l (rmF 6 216) D 4 0 0 (wM cy cz m M) [(0, .ref (m 0)), (1, .int k), (2, .int v)] [.int vNONE] 18
        refine g_ldc C (v := vNONE) mX4_put_k44 dX4_put_18 ?_
        refine g_icmp_eq C (tgt := 27) dX4_put_20 (by decide) (fun c3 => ?_) (fun c3 => ?_)
        · skip
          refine g_iconst C (v := 0) dX4_put_27 (by decide) ?_
          refine g_istore_n C (lv' := [(3, .int 0), (0, .ref (m 0)), (1, .int k), (2, .int v)]) dX4_put_28 rfl (by decide) rfl ?_
          refine g_iload_n C dX4_put_29 0 rfl rfl ?_
          refine g_if_ne C (tgt := 61) dX4_put_30 (by decide) (fun c6 => ?_) (fun c6 => ?_)
          · skip
            exact absurd rfl (c6)
          · skip
            refine g_aload_n C dX4_put_33 1 rfl rfl ?_
            refine g_get C 0 (f := 2) (v := .ref (m 3)) (Cn := RX4) (T := TX4) (N := 20) dX4_put_34 rfl rfl iX4_put_X4 (by decide) mX4_put_f16 rfl ?_
            refine g_aload_n C dX4_put_37 1 rfl rfl ?_
            refine g_aload_n C dX4_put_38 1 rfl rfl ?_
            refine g_iload_n C dX4_put_39 2 rfl rfl ?_
            refine g_callIV C [0, 1, 2, 3, 4, 5, 6, 7, 8, 9, 10] [] [0, 1, 2, 3, 4, 5, 6, 7, 8, 9, 10] 0 4 (b := m 0) rfl rfl (As := [.int k]) (rest := [.ref (m 0), .ref (m 3)]) (wr := ([] : va_W)) (wf := fun _ => (wM cy cz m M)) dX4_put_40 gX4_put_X4_addressOf rfl dmX4_addressOf ⟨rfl, rfl, Nat.le_of_ble_eq_true rfl, Nat.le_of_ble_eq_true rfl, Nat.zero_le _, Nat.zero_le _⟩ (c_X4_addressOf l D cy cz m M T.A.L T.A.S k hy.1.2.2.1 hy.1.2.2.2 hy.1.2.1.1 hy.1.S64) ⟨rfl, rfl, rfl, rfl, by decide, rfl, fun _ => rfl⟩ (Nat.le_of_ble_eq_true rfl) ?_
            rintro _ - rfl
            show G x l (rmF 6 216) D 4 0 0 (wM cy cz m M) [(3, .int 0), (0, .ref (m 0)), (1, .int k), (2, .int v)] [.int (nI (adr T.A.L T.A.S k)), .ref (m 0), .ref (m 3)] 43
            refine g_top (b := nI (T.A.ad k)) (rfl) ?_
            refine g_callIV C [0, 1, 2, 3, 4, 5, 6, 7, 8, 9, 10] [] [0, 1, 2, 3, 4, 5, 6, 7, 8, 9, 10] 0 4 (b := m 0) rfl rfl (As := [.int (nI (T.A.ad k))]) (rest := [.ref (m 3)]) (wr := ([] : va_W)) (wf := fun _ => (wM cy cz m M)) dX4_put_43 gX4_put_X4_lastOf rfl dmX4_lastOf ⟨rfl, rfl, Nat.le_of_ble_eq_true rfl, Nat.le_of_ble_eq_true rfl, Nat.zero_le _, Nat.zero_le _⟩ (c_X4_lastOf l D cy cz m M (T.A.ad k) (T.A.tl (T.A.ad k)) (hy.1.1.chain (hy.1.adlt k))) ⟨rfl, rfl, rfl, rfl, by decide, rfl, fun _ => rfl⟩ (Nat.le_of_ble_eq_true rfl) ?_
            rintro _ - rfl
            show G x l (rmF 6 216) D 4 0 0 (wM cy cz m M) [(3, .int 0), (0, .ref (m 0)), (1, .int k), (2, .int v)] [.int (nI (lst (T.A.ad k) (T.A.tl (T.A.ad k)))), .ref (m 3)] 46
            refine g_top (b := nI (T.A.la (T.A.ad k))) (rfl) ?_
            refine g_iald C 3 0 (f := M 3) (N := 128) (T.A.la (T.A.ad k)) dX4_put_46 rfl rfl (by decide) (rfl) (hla) ?_
            refine g_top (b := nI (T.A.sz (T.A.la (T.A.ad k)))) (hy.1.1.used hla) ?_
            refine g_iconst C (v := 4) dX4_put_47 (by decide) ?_
            refine g_icmp_ne C (tgt := 61) dX4_put_48 (by decide) (fun c4 => ?_) (fun c4 => ?_)
            · skip
              have h9 : ¬ T.A.sz (T.A.la (T.A.ad k)) = 4 := fun w => c4 (by rw [w]; rfl)
              have hm : T.A.fnd k = none → T.A.rm (T.A.ad k) := fun _ => Or.inl (by omega)
              refine g_aload_n C dX4_put_61 1 rfl rfl ?_
              refine g_callIV C [0, 1, 2, 3, 4, 5, 6, 7, 8, 9, 10] [] [0, 1, 2, 3, 4, 5, 6, 7, 8, 9, 10] 0 4 (b := m 0) rfl rfl (As := []) (rest := []) (wr := ([] : va_W)) (wf := fun _ => (wM cy cz m M)) dX4_put_62 gX4_put_X4_isLogFull rfl dmX4_isLogFull ⟨rfl, rfl, Nat.le_of_ble_eq_true rfl, Nat.le_of_ble_eq_true rfl, Nat.zero_le _, Nat.zero_le _⟩ (c_X4_isLogFull l D cy cz m M T.kl.length T.w.length (by rw [← log_len]; exact hy.2.2.1) hy.2.2.2.1 hy.2.2.2.2.2.2.2.2.2.2.2.2.1) ⟨rfl, rfl, rfl, rfl, by decide, rfl, fun _ => rfl⟩ (Nat.le_of_ble_eq_true rfl) ?_
              rintro _ - rfl
              show G x l (rmF 6 216) D 4 0 0 (wM cy cz m M) [(3, .int 0), (0, .ref (m 0)), (1, .int k), (2, .int v)] [.int (if 64 ≤ T.w.length then 1 else 0)] 65
              refine g_if_eq C (tgt := 71) dX4_put_65 (by decide) (fun c5 => ?_) (fun c5 => ?_)
              · skip
                have hl : T.w.length < 64 := Nat.lt_of_not_le (fun w => by rw [if_pos w] at c5; exact absurd c5 (by decide))
                refine g_aload_n C dX4_put_71 1 rfl rfl ?_
                refine g_iload_n C dX4_put_72 2 rfl rfl ?_
                refine g_iload_n C dX4_put_73 3 rfl rfl ?_
                refine g_callVV C [0, 1, 2, 3, 4, 5, 6, 7, 8, 9, 10] [] [0, 1, 2, 3, 4, 5, 6, 7, 8, 9, 10] 0 4 (b := m 0) rfl rfl (As := [.int k, .int v]) (rest := []) (wr := ([] : va_W)) (wf := fun M3 => (wM cy cz m M3)) dX4_put_74 gX4_put_X4_note rfl dmX4_note ⟨rfl, rfl, Nat.le_of_ble_eq_true rfl, Nat.le_of_ble_eq_true rfl, Nat.zero_le _, Nat.zero_le _⟩ (c_X4_note_put l D cy cz m M T k v hy hN hl (⟨hm, Int32.not_lt.mp c1⟩)) ⟨rfl, rfl, rfl, rfl, by decide, rfl, fun _ => rfl⟩ (Nat.le_of_ble_eq_true rfl) ?_
                intro M3 hp3
                show G x l (rmF 6 216) D 4 0 0 (wM cy cz m M3) [(3, .int 0), (0, .ref (m 0)), (1, .int k), (2, .int v)] [] 77
                refine g_iload_n C dX4_put_77 0 rfl rfl ?_
                refine g_if_eq C (tgt := 85) dX4_put_78 (by decide) (fun c8 => ?_) (fun c8 => ?_)
                · skip
                  refine g_iconst C (v := 0) dX4_put_85 (by decide) ?_
                  exact ret _ M3 _ _ dX4_put_86 (by rw [aPut_ok hv hm hl, hf]; exact ⟨rfl, hp3⟩)
                · skip
                  exact absurd rfl (c8)
              · skip
                have hl : 64 ≤ T.w.length := Decidable.byContradiction (fun w => c5 (if_neg w))
                refine g_ldc C (v := (-2000000004)) mX4_put_k132 dX4_put_68 ?_
                exact ret _ M _ _ dX4_put_70 (by rw [aPut_log hv hm hl]; exact ⟨rfl, hy⟩)
            · skip
              have h9 : T.A.sz (T.A.la (T.A.ad k)) = 4 := (nI_eq (b := 4) (by omega) (by decide)).mp c4
              have hfc : T.A.fc ≤ 64 := frcF_le 64 64
              refine g_aload_n C dX4_put_51 1 rfl rfl ?_
              refine g_callIV C [0, 1, 2, 3, 4, 5, 6, 7, 8, 9, 10] [] [0, 1, 2, 3, 4, 5, 6, 7, 8, 9, 10] 0 4 (b := m 0) rfl rfl (As := []) (rest := []) (wr := ([] : va_W)) (wf := fun _ => (wM cy cz m M)) dX4_put_52 gX4_put_X4_freeOnes rfl dmX4_freeOnes ⟨rfl, rfl, Nat.le_of_ble_eq_true rfl, Nat.le_of_ble_eq_true rfl, Nat.zero_le _, Nat.zero_le _⟩ (c_X4_freeOnes l D cy cz m M T.A hy.1.1) ⟨rfl, rfl, rfl, rfl, by decide, rfl, fun _ => rfl⟩ (Nat.le_of_ble_eq_true rfl) ?_
              rintro _ - rfl
              show G x l (rmF 6 216) D 4 0 0 (wM cy cz m M) [(3, .int 0), (0, .ref (m 0)), (1, .int k), (2, .int v)] [.int (nI T.A.fc)] 55
              refine g_if_ne C (tgt := 61) dX4_put_55 (by decide) (fun c7 => ?_) (fun c7 => ?_)
              · skip
                have h8 : 0 < T.A.fc := Nat.pos_of_ne_zero (fun w => c7 (by rw [w]; rfl))
                have hm : T.A.fnd k = none → T.A.rm (T.A.ad k) := fun _ => Or.inr (frcF_pos 64 64 h8)
                refine g_aload_n C dX4_put_61 1 rfl rfl ?_
                refine g_callIV C [0, 1, 2, 3, 4, 5, 6, 7, 8, 9, 10] [] [0, 1, 2, 3, 4, 5, 6, 7, 8, 9, 10] 0 4 (b := m 0) rfl rfl (As := []) (rest := []) (wr := ([] : va_W)) (wf := fun _ => (wM cy cz m M)) dX4_put_62 gX4_put_X4_isLogFull rfl dmX4_isLogFull ⟨rfl, rfl, Nat.le_of_ble_eq_true rfl, Nat.le_of_ble_eq_true rfl, Nat.zero_le _, Nat.zero_le _⟩ (c_X4_isLogFull l D cy cz m M T.kl.length T.w.length (by rw [← log_len]; exact hy.2.2.1) hy.2.2.2.1 hy.2.2.2.2.2.2.2.2.2.2.2.2.1) ⟨rfl, rfl, rfl, rfl, by decide, rfl, fun _ => rfl⟩ (Nat.le_of_ble_eq_true rfl) ?_
                rintro _ - rfl
                show G x l (rmF 6 216) D 4 0 0 (wM cy cz m M) [(3, .int 0), (0, .ref (m 0)), (1, .int k), (2, .int v)] [.int (if 64 ≤ T.w.length then 1 else 0)] 65
                refine g_if_eq C (tgt := 71) dX4_put_65 (by decide) (fun c5 => ?_) (fun c5 => ?_)
                · skip
                  have hl : T.w.length < 64 := Nat.lt_of_not_le (fun w => by rw [if_pos w] at c5; exact absurd c5 (by decide))
                  refine g_aload_n C dX4_put_71 1 rfl rfl ?_
                  refine g_iload_n C dX4_put_72 2 rfl rfl ?_
                  refine g_iload_n C dX4_put_73 3 rfl rfl ?_
                  refine g_callVV C [0, 1, 2, 3, 4, 5, 6, 7, 8, 9, 10] [] [0, 1, 2, 3, 4, 5, 6, 7, 8, 9, 10] 0 4 (b := m 0) rfl rfl (As := [.int k, .int v]) (rest := []) (wr := ([] : va_W)) (wf := fun M3 => (wM cy cz m M3)) dX4_put_74 gX4_put_X4_note rfl dmX4_note ⟨rfl, rfl, Nat.le_of_ble_eq_true rfl, Nat.le_of_ble_eq_true rfl, Nat.zero_le _, Nat.zero_le _⟩ (c_X4_note_put l D cy cz m M T k v hy hN hl (⟨hm, Int32.not_lt.mp c1⟩)) ⟨rfl, rfl, rfl, rfl, by decide, rfl, fun _ => rfl⟩ (Nat.le_of_ble_eq_true rfl) ?_
                  intro M3 hp3
                  show G x l (rmF 6 216) D 4 0 0 (wM cy cz m M3) [(3, .int 0), (0, .ref (m 0)), (1, .int k), (2, .int v)] [] 77
                  refine g_iload_n C dX4_put_77 0 rfl rfl ?_
                  refine g_if_eq C (tgt := 85) dX4_put_78 (by decide) (fun c8 => ?_) (fun c8 => ?_)
                  · skip
                    refine g_iconst C (v := 0) dX4_put_85 (by decide) ?_
                    exact ret _ M3 _ _ dX4_put_86 (by rw [aPut_ok hv hm hl, hf]; exact ⟨rfl, hp3⟩)
                  · skip
                    exact absurd rfl (c8)
                · skip
                  have hl : 64 ≤ T.w.length := Decidable.byContradiction (fun w => c5 (if_neg w))
                  refine g_ldc C (v := (-2000000004)) mX4_put_k132 dX4_put_68 ?_
                  exact ret _ M _ _ dX4_put_70 (by rw [aPut_log hv hm hl]; exact ⟨rfl, hy⟩)
              · skip
                have h8 : T.A.fc = 0 := (nI_eq (b := 0) (by omega) (by decide)).mp c7
                have hm : ¬ (T.A.sz (T.A.la (T.A.ad k)) < 4 ∨ ¬ T.A.lf = none) := fun w => w.elim (by omega) (fun w => w (frcF_zero 64 64 h8))
                refine g_ldc C (v := (-2000000003)) mX4_put_k127 dX4_put_58 ?_
                exact ret _ M _ _ dX4_put_60 (by rw [aPut_full hv hf hm]; exact ⟨rfl, hy⟩)
        · skip
          exact absurd rfl (c3)
      · skip
        have hc5 : c < 512 := fnd_lt hy.1.1.1 hy.1.2.1 hf
        have hm : T.A.fnd k = none → T.A.rm (T.A.ad k) := fun w => by rw [hf] at w; cases w
        show G x l (rmF 6 216) D 4 0 0 (wM cy cz m M) [(0, .ref (m 0)), (1, .int k), (2, .int v)] [.int (nI c)] 18
        refine g_ldc C (v := vNONE) mX4_put_k44 dX4_put_18 ?_
        refine g_icmp_eq C (tgt := 27) dX4_put_20 (by decide) (fun c3 => ?_) (fun c3 => ?_)
        · skip
          exact absurd c3 (NONE_nI (by omega))
        · skip
          refine g_iconst C (v := 1) dX4_put_23 (by decide) ?_
          refine g_goto C (tgt := 28) dX4_put_24 (by decide) ?_
          refine g_istore_n C (lv' := [(3, .int 1), (0, .ref (m 0)), (1, .int k), (2, .int v)]) dX4_put_28 rfl (by decide) rfl ?_
          refine g_iload_n C dX4_put_29 0 rfl rfl ?_
          refine g_if_ne C (tgt := 61) dX4_put_30 (by decide) (fun c6 => ?_) (fun c6 => ?_)
          · skip
            refine g_aload_n C dX4_put_61 1 rfl rfl ?_
            refine g_callIV C [0, 1, 2, 3, 4, 5, 6, 7, 8, 9, 10] [] [0, 1, 2, 3, 4, 5, 6, 7, 8, 9, 10] 0 4 (b := m 0) rfl rfl (As := []) (rest := []) (wr := ([] : va_W)) (wf := fun _ => (wM cy cz m M)) dX4_put_62 gX4_put_X4_isLogFull rfl dmX4_isLogFull ⟨rfl, rfl, Nat.le_of_ble_eq_true rfl, Nat.le_of_ble_eq_true rfl, Nat.zero_le _, Nat.zero_le _⟩ (c_X4_isLogFull l D cy cz m M T.kl.length T.w.length (by rw [← log_len]; exact hy.2.2.1) hy.2.2.2.1 hy.2.2.2.2.2.2.2.2.2.2.2.2.1) ⟨rfl, rfl, rfl, rfl, by decide, rfl, fun _ => rfl⟩ (Nat.le_of_ble_eq_true rfl) ?_
            rintro _ - rfl
            show G x l (rmF 6 216) D 4 0 0 (wM cy cz m M) [(3, .int 1), (0, .ref (m 0)), (1, .int k), (2, .int v)] [.int (if 64 ≤ T.w.length then 1 else 0)] 65
            refine g_if_eq C (tgt := 71) dX4_put_65 (by decide) (fun c5 => ?_) (fun c5 => ?_)
            · skip
              have hl : T.w.length < 64 := Nat.lt_of_not_le (fun w => by rw [if_pos w] at c5; exact absurd c5 (by decide))
              refine g_aload_n C dX4_put_71 1 rfl rfl ?_
              refine g_iload_n C dX4_put_72 2 rfl rfl ?_
              refine g_iload_n C dX4_put_73 3 rfl rfl ?_
              refine g_callVV C [0, 1, 2, 3, 4, 5, 6, 7, 8, 9, 10] [] [0, 1, 2, 3, 4, 5, 6, 7, 8, 9, 10] 0 4 (b := m 0) rfl rfl (As := [.int k, .int v]) (rest := []) (wr := ([] : va_W)) (wf := fun M3 => (wM cy cz m M3)) dX4_put_74 gX4_put_X4_note rfl dmX4_note ⟨rfl, rfl, Nat.le_of_ble_eq_true rfl, Nat.le_of_ble_eq_true rfl, Nat.zero_le _, Nat.zero_le _⟩ (c_X4_note_put l D cy cz m M T k v hy hN hl (⟨hm, Int32.not_lt.mp c1⟩)) ⟨rfl, rfl, rfl, rfl, by decide, rfl, fun _ => rfl⟩ (Nat.le_of_ble_eq_true rfl) ?_
              intro M3 hp3
              show G x l (rmF 6 216) D 4 0 0 (wM cy cz m M3) [(3, .int 1), (0, .ref (m 0)), (1, .int k), (2, .int v)] [] 77
              refine g_iload_n C dX4_put_77 0 rfl rfl ?_
              refine g_if_eq C (tgt := 85) dX4_put_78 (by decide) (fun c8 => ?_) (fun c8 => ?_)
              · skip
                exact absurd c8 (by decide)
              · skip
                refine g_iconst C (v := 1) dX4_put_81 (by decide) ?_
                refine g_goto C (tgt := 86) dX4_put_82 (by decide) ?_
                exact ret _ M3 _ _ dX4_put_86 (by rw [aPut_ok hv hm hl, hf]; exact ⟨rfl, hp3⟩)
            · skip
              have hl : 64 ≤ T.w.length := Decidable.byContradiction (fun w => c5 (if_neg w))
              refine g_ldc C (v := (-2000000004)) mX4_put_k132 dX4_put_68 ?_
              exact ret _ M _ _ dX4_put_70 (by rw [aPut_log hv hm hl]; exact ⟨rfl, hy⟩)
          · skip
            exact absurd c6 (by decide)
    · skip
      refine g_ldc C (v := (-2000000001)) mX4_put_k126 dX4_put_10 ?_
      exact ret _ M _ _ dX4_put_12 (by rw [aPut_bad (Or.inr (Int32.not_le.mp c2))]; exact ⟨rfl, hy⟩)

theorem mX4_remove_k44 : Cond.constant RX4 44 (-2000000005) ∈ wsX4_remove := List.mem_of_getElem? (i := 1) rfl
theorem mX4_remove_f13 : Cond.fieldLink RX4 13 (TX4 1).1 (TX4 1).2.1 (TX4 1).2.2.1 ∈ wsX4_remove := List.mem_of_getElem? (i := 3) rfl
theorem iX4_remove_X4 : ∀ w ∈ wsX40, w ∈ wsX4_remove := by decide +kernel
theorem mX4_remove_k132 : Cond.constant RX4 132 (-2000000004) ∈ wsX4_remove := List.mem_of_getElem? (i := 2) rfl
set_option maxHeartbeats 1600000 in
set_option maxRecDepth 20000 in
theorem c_X4_remove (l : Launch) (D : va_G) (cy cz : ClassId) (m : Nat → Nat) (M : Mem) (T : TS) (k : Int32) (hy : RY T M) (hN : T.log.length < 4200) : MI l yX4_remove wsX4_remove (rmF 6 216) D (tyL cy cz) [.ref (m 0), .int k] (wM cy cz m M) (fun (r : Int32) (M1 : Mem) => r = (aRem T k).1 ∧ RY (aRem T k).2 M1) (fun M1 => (wM cy cz m M1)) := by
  refine g_entI (cc := cX4_remove) (maxL := 4) (own := RX4) (by decide) rfl rfl (Nat.le_of_ble_eq_true rfl) (fun x C ret => ?_)
  show G x l (rmF 6 216) D 4 0 0 (wM cy cz m M) [(0, .ref (m 0)), (1, .int k)] [] 0
  refine g_aload_n C dX4_remove_0 0 rfl rfl ?_
  refine g_iload_n C dX4_remove_1 1 rfl rfl ?_
  refine g_callIV C [0, 1, 2, 3, 4, 5, 6, 7, 8, 9, 10] [] [0, 1, 2, 3, 4, 5, 6, 7, 8, 9, 10] 0 4 (b := m 0) rfl rfl (As := [.int k]) (rest := []) (wr := ([] : va_W)) (wf := fun _ => (wM cy cz m M)) dX4_remove_2 gX4_remove_X4_placeOf rfl dmX4_placeOf ⟨rfl, rfl, Nat.le_of_ble_eq_true rfl, Nat.le_of_ble_eq_true rfl, Nat.zero_le _, Nat.zero_le _⟩ (c_X4_placeOf l D cy cz m M T.A k hy.1) ⟨rfl, rfl, rfl, rfl, by decide, rfl, fun _ => rfl⟩ (Nat.le_of_ble_eq_true rfl) ?_
  rintro _ - rfl
  show G x l (rmF 6 216) D 4 0 0 (wM cy cz m M) [(0, .ref (m 0)), (1, .int k)] [.int (ocI (T.A.fnd k))] 5
  rcases hf : T.A.fnd k with _ | c
  · skip
    show G x l (rmF 6 216) D 4 0 0 (wM cy cz m M) [(0, .ref (m 0)), (1, .int k)] [.int vNONE] 5
    refine g_istore_n C (lv' := [(2, .int vNONE), (0, .ref (m 0)), (1, .int k)]) dX4_remove_5 rfl (by decide) rfl ?_
    refine g_iload_n C dX4_remove_6 0 rfl rfl ?_
    refine g_ldc C (v := vNONE) mX4_remove_k44 dX4_remove_7 ?_
    refine g_icmp_ne C (tgt := 15) dX4_remove_9 (by decide) (fun c3 => ?_) (fun c3 => ?_)
    · skip
      exact absurd rfl (c3)
    · skip
      refine g_ldc C (v := vNONE) mX4_remove_k44 dX4_remove_12 ?_
      exact ret _ M _ _ dX4_remove_14 (by unfold aRem; rw [hf]; exact ⟨rfl, hy⟩)
  · skip
    have hc5 : c < 512 := fnd_lt hy.1.1.1 hy.1.2.1 hf
    have hvc := hy.1.valC (hy.1.adlt k) (fnd_live hf).1
    show G x l (rmF 6 216) D 4 0 0 (wM cy cz m M) [(0, .ref (m 0)), (1, .int k)] [.int (nI c)] 5
    refine g_istore_n C (lv' := [(2, .int (nI c)), (0, .ref (m 0)), (1, .int k)]) dX4_remove_5 rfl (by decide) rfl ?_
    refine g_iload_n C dX4_remove_6 0 rfl rfl ?_
    refine g_ldc C (v := vNONE) mX4_remove_k44 dX4_remove_7 ?_
    refine g_icmp_ne C (tgt := 15) dX4_remove_9 (by decide) (fun c3 => ?_) (fun c3 => ?_)
    · skip
      refine g_aload_n C dX4_remove_15 1 rfl rfl ?_
      refine g_callIV C [0, 1, 2, 3, 4, 5, 6, 7, 8, 9, 10] [] [0, 1, 2, 3, 4, 5, 6, 7, 8, 9, 10] 0 4 (b := m 0) rfl rfl (As := []) (rest := []) (wr := ([] : va_W)) (wf := fun _ => (wM cy cz m M)) dX4_remove_16 gX4_remove_X4_isLogFull rfl dmX4_isLogFull ⟨rfl, rfl, Nat.le_of_ble_eq_true rfl, Nat.le_of_ble_eq_true rfl, Nat.zero_le _, Nat.zero_le _⟩ (c_X4_isLogFull l D cy cz m M T.kl.length T.w.length (by rw [← log_len]; exact hy.2.2.1) hy.2.2.2.1 hy.2.2.2.2.2.2.2.2.2.2.2.2.1) ⟨rfl, rfl, rfl, rfl, by decide, rfl, fun _ => rfl⟩ (Nat.le_of_ble_eq_true rfl) ?_
      rintro _ - rfl
      show G x l (rmF 6 216) D 4 0 0 (wM cy cz m M) [(2, .int (nI c)), (0, .ref (m 0)), (1, .int k)] [.int (if 64 ≤ T.w.length then 1 else 0)] 19
      refine g_if_eq C (tgt := 25) dX4_remove_19 (by decide) (fun c5 => ?_) (fun c5 => ?_)
      · skip
        have hl : T.w.length < 64 := Nat.lt_of_not_le (fun w => by rw [if_pos w] at c5; exact absurd c5 (by decide))
        refine g_aload_n C dX4_remove_25 1 rfl rfl ?_
        refine g_get C 0 (f := 1) (v := .ref (m 2)) (Cn := RX4) (T := TX4) (N := 20) dX4_remove_26 rfl rfl iX4_remove_X4 (by decide) mX4_remove_f13 rfl ?_
        refine g_iload_n C dX4_remove_29 0 rfl rfl ?_
        refine g_iald C 2 0 (f := M 2) (N := 512) c dX4_remove_30 rfl rfl (by decide) (rfl) (hc5) ?_
        refine g_top (b := T.A.vs c) (hvc) ?_
        refine g_istore_n C (lv' := [(3, .int (T.A.vs c)), (2, .int (nI c)), (0, .ref (m 0)), (1, .int k)]) dX4_remove_31 rfl (by decide) rfl ?_
        refine g_aload_n C dX4_remove_32 2 rfl rfl ?_
        refine g_iload_n C dX4_remove_33 3 rfl rfl ?_
        refine g_iconst C (v := (-1)) dX4_remove_34 (by decide) ?_
        refine g_callVV C [0, 1, 2, 3, 4, 5, 6, 7, 8, 9, 10] [] [0, 1, 2, 3, 4, 5, 6, 7, 8, 9, 10] 0 4 (b := m 0) rfl rfl (As := [.int k, .int (-1)]) (rest := []) (wr := ([] : va_W)) (wf := fun M3 => (wM cy cz m M3)) dX4_remove_35 gX4_remove_X4_note rfl dmX4_note ⟨rfl, rfl, Nat.le_of_ble_eq_true rfl, Nat.le_of_ble_eq_true rfl, Nat.zero_le _, Nat.zero_le _⟩ (c_X4_note_rem l D cy cz m M T k c hy hN hl hf) ⟨rfl, rfl, rfl, rfl, by decide, rfl, fun _ => rfl⟩ (Nat.le_of_ble_eq_true rfl) ?_
        intro M3 hp3
        show G x l (rmF 6 216) D 4 0 0 (wM cy cz m M3) [(3, .int (T.A.vs c)), (2, .int (nI c)), (0, .ref (m 0)), (1, .int k)] [] 38
        refine g_iload_n C dX4_remove_38 0 rfl rfl ?_
        exact ret _ M3 _ _ dX4_remove_39 (by unfold aRem; rw [hf]; show _ = (if _ then _ else _ : Int32 × TS).1 ∧ RY (if _ then _ else _ : Int32 × TS).2 _; rw [if_neg (by omega)]; exact ⟨rfl, hp3⟩)
      · skip
        have hl : 64 ≤ T.w.length := Decidable.byContradiction (fun w => c5 (if_neg w))
        refine g_ldc C (v := (-2000000004)) mX4_remove_k132 dX4_remove_22 ?_
        exact ret _ M _ _ dX4_remove_24 (by unfold aRem; rw [hf]; show _ = (if _ then _ else _ : Int32 × TS).1 ∧ RY (if _ then _ else _ : Int32 × TS).2 _; rw [if_pos hl]; exact ⟨rfl, hy⟩)
    · skip
      exact absurd c3 (NONE_nI (by omega))

theorem mX4_get_k44 : Cond.constant RX4 44 (-2000000005) ∈ wsX4_get := List.mem_of_getElem? (i := 1) rfl
theorem mX4_get_f136 : Cond.fieldLink RX4 136 (TX4 16).1 (TX4 16).2.1 (TX4 16).2.2.1 ∈ wsX4_get := List.mem_of_getElem? (i := 2) rfl
theorem iX4_get_X4 : ∀ w ∈ wsX40, w ∈ wsX4_get := by decide +kernel
theorem mX4_get_f16 : Cond.fieldLink RX4 16 (TX4 2).1 (TX4 2).2.1 (TX4 2).2.2.1 ∈ wsX4_get := List.mem_of_getElem? (i := 3) rfl
theorem mX4_get_f19 : Cond.fieldLink RX4 19 (TX4 3).1 (TX4 3).2.1 (TX4 3).2.2.1 ∈ wsX4_get := List.mem_of_getElem? (i := 6) rfl
theorem mX4_get_f7 : Cond.fieldLink RX4 7 (TX4 0).1 (TX4 0).2.1 (TX4 0).2.2.1 ∈ wsX4_get := List.mem_of_getElem? (i := 4) rfl
theorem mX4_get_f13 : Cond.fieldLink RX4 13 (TX4 1).1 (TX4 1).2.1 (TX4 1).2.2.1 ∈ wsX4_get := List.mem_of_getElem? (i := 5) rfl
set_option maxHeartbeats 1600000 in
set_option maxRecDepth 20000 in
theorem c_X4_get (l : Launch) (D : va_G) (cy cz : ClassId) (m : Nat → Nat) (M : Mem) (T : TS) (k : Int32) (hy : RY T M) : MI l yX4_get wsX4_get (rmF 2 72) D (tyL cy cz) [.ref (m 0), .int k] (wM cy cz m M) (fun (r : Int32) (M1 : Mem) => r = (aGet T k).1 ∧ RY (aGet T k).2 M1) (fun M1 => (wM cy cz m M1)) := by
  refine g_entI (cc := cX4_get) (maxL := 4) (own := RX4) (by decide) rfl rfl (Nat.le_of_ble_eq_true rfl) (fun x C ret => ?_)
  show G x l (rmF 2 72) D 4 0 0 (wM cy cz m M) [(0, .ref (m 0)), (1, .int k)] [] 0
  refine g_aload_n C dX4_get_0 0 rfl rfl ?_
  refine g_iload_n C dX4_get_1 1 rfl rfl ?_
  refine g_callIV C [0, 1, 2, 3, 4, 5, 6, 7, 8, 9, 10] [] [0, 1, 2, 3, 4, 5, 6, 7, 8, 9, 10] 0 4 (b := m 0) rfl rfl (As := [.int k]) (rest := []) (wr := ([] : va_W)) (wf := fun _ => (wM cy cz m M)) dX4_get_2 gX4_get_X4_addressOf rfl dmX4_addressOf ⟨rfl, rfl, Nat.le_of_ble_eq_true rfl, Nat.le_of_ble_eq_true rfl, Nat.zero_le _, Nat.zero_le _⟩ (c_X4_addressOf l D cy cz m M T.A.L T.A.S k hy.1.2.2.1 hy.1.2.2.2 hy.1.2.1.1 hy.1.S64) ⟨rfl, rfl, rfl, rfl, by decide, rfl, fun _ => rfl⟩ (Nat.le_of_ble_eq_true rfl) ?_
  rintro _ - rfl
  show G x l (rmF 2 72) D 4 0 0 (wM cy cz m M) [(0, .ref (m 0)), (1, .int k)] [.int (nI (adr T.A.L T.A.S k))] 5
  refine g_top (b := nI (T.A.ad k)) (rfl) ?_
  refine g_istore_n C (lv' := [(2, .int (nI (T.A.ad k))), (0, .ref (m 0)), (1, .int k)]) dX4_get_5 rfl (by decide) rfl ?_
  refine g_loop (σ := List Nat × Nat × Mem) (fun (a : List Nat × Nat × Mem) => match a with | (r, d, M1) => (wM cy cz m M1)) (fun (a : List Nat × Nat × Mem) => match a with | (r, d, M1) => [(2, .int (hdI r)), (0, .ref (m 0)), (1, .int k)]) (fun (a : List Nat × Nat × Mem) => match a with | (r, d, M1) => (isCh (M 4) r) ∧ (T.A.fnd k = fndL T.A.sz T.A.ks k r) ∧ (rdL T.A.sz T.A.ks k (T.A.ch (T.A.ad k)) = d + rdL T.A.sz T.A.ks k r) ∧ (∀ a, 1 ≤ a → M1 a = M a) ∧ (∀ j, ¬ j = 8 → M1 0 j = M 0 j) ∧ (M1 0 8 = T.rd + nI d)) (fun (a : List Nat × Nat × Mem) => match a with | (r, d, M1) => r.length) ?_ (T.A.ch (T.A.ad k), 0, M) (⟨hy.1.1.chain (hy.1.adlt k), rfl, (Nat.zero_add _).symm, fun _ _ => rfl, fun _ _ => rfl, hy.2.2.2.2.2.2.2.2.2.1.trans (Int32.add_zero _).symm⟩)
  intro a hI ih
  obtain ⟨r, d, M1⟩ := a
  obtain ⟨i1, i3, i4, i5, i6, i7⟩ : (isCh (M 4) r) ∧ (T.A.fnd k = fndL T.A.sz T.A.ks k r) ∧ (rdL T.A.sz T.A.ks k (T.A.ch (T.A.ad k)) = d + rdL T.A.sz T.A.ks k r) ∧ (∀ a, 1 ≤ a → M1 a = M a) ∧ (∀ j, ¬ j = 8 → M1 0 j = M 0 j) ∧ (M1 0 8 = T.rd + nI d) := hI
  show G x l (rmF 2 72) D 4 0 0 (wM cy cz m M1) [(2, .int (hdI r)), (0, .ref (m 0)), (1, .int k)] [] 6
  rcases r with _ | ⟨q, r⟩
  · skip
    show G x l (rmF 2 72) D 4 0 0 (wM cy cz m M1) [(2, .int vNONE), (0, .ref (m 0)), (1, .int k)] [] 6
    refine g_iload_n C dX4_get_6 0 rfl rfl ?_
    refine g_ldc C (v := vNONE) mX4_get_k44 dX4_get_7 ?_
    refine g_icmp_eq C (tgt := 75) dX4_get_9 (by decide) (fun c1 => ?_) (fun c1 => ?_)
    · skip
      refine g_ldc C (v := vNONE) mX4_get_k44 dX4_get_75 ?_
      exact ret _ M1 _ _ dX4_get_77 (by rw [aGet_fst (o := none) i3, aGet_snd hy.1.1.1 hy.1.2.1 (n := d) i4]; exact ⟨rfl, RY_get hy i5 i6 i7⟩)
    · skip
      exact absurd rfl (c1)
  · skip
    obtain ⟨hq, hn, i1⟩ := i1
    have hz := hy.1.1.sz4 hq
    have u1 : M1 1 = M 1 := i5 1 (by decide)
    have u2 : M1 2 = M 2 := i5 2 (by decide)
    have u3 : M1 3 = M 3 := i5 3 (by decide)
    have u4 : M1 4 = M 4 := i5 4 (by decide)
    show G x l (rmF 2 72) D 4 0 0 (wM cy cz m M1) [(2, .int (nI q)), (0, .ref (m 0)), (1, .int k)] [] 6
    refine g_iload_n C dX4_get_6 0 rfl rfl ?_
    refine g_ldc C (v := vNONE) mX4_get_k44 dX4_get_7 ?_
    refine g_icmp_eq C (tgt := 75) dX4_get_9 (by decide) (fun c1 => ?_) (fun c1 => ?_)
    · skip
      exact absurd c1 (NONE_nI (by omega))
    · skip
      refine g_aload_n C dX4_get_12 1 rfl rfl ?_
      refine g_dup C dX4_get_13 rfl ?_
      refine g_get C 0 (f := 16) (v := .int (M1 0 8)) (Cn := RX4) (T := TX4) (N := 20) dX4_get_14 rfl rfl iX4_get_X4 (by decide) mX4_get_f136 rfl ?_
      refine g_top (b := T.rd + nI d) (i7) ?_
      refine g_iconst C (v := 1) dX4_get_17 (by decide) ?_
      refine g_iadd C dX4_get_18 ?_
      refine g_top (b := T.rd + nI (d + 1)) ((Int32.add_assoc _ _ _).trans (congrArg (T.rd + ·) (nI_1 d))) ?_
      refine g_put C 0 (f := 16) (v := .int (T.rd + nI (d + 1))) (ty := .int) (Cn := RX4) (T := TX4) (N := 20) (ws' := (wM cy cz m (ps M1 0 8 (T.rd + nI (d + 1))))) dX4_get_19 rfl rfl iX4_get_X4 tyX4 tyX4_ok nmX4 (by decide) mX4_get_f136 rfl rfl (rfl) (rfl) (Nat.le_of_ble_eq_true rfl) (wM_s8 cy cz m M1 (T.rd + nI (d + 1))) ?_
      refine g_iconst C (v := 0) dX4_get_22 (by decide) ?_
      refine g_istore_n C (lv' := [(3, .int 0), (2, .int (nI q)), (0, .ref (m 0)), (1, .int k)]) dX4_get_23 rfl (by decide) rfl ?_
      refine g_loop (σ := Nat) (fun (a : Nat) => match a with | i => (wM cy cz m (ps M1 0 8 (T.rd + nI (d + 1))))) (fun (a : Nat) => match a with | i => [(3, .int (nI i)), (2, .int (nI q)), (0, .ref (m 0)), (1, .int k)]) (fun (a : Nat) => match a with | i => (i ≤ T.A.sz q) ∧ (fndI T.A.ks k q (T.A.sz q) 0 = fndI T.A.ks k q (T.A.sz q - i) i)) (fun (a : Nat) => match a with | i => T.A.sz q - i) ?_ 0 (⟨Nat.zero_le _, rfl⟩)
      intro a hI ih2
      obtain ⟨i, rfl⟩ : ∃ z, z = a := ⟨_, rfl⟩
      obtain ⟨k1, k2⟩ : (i ≤ T.A.sz q) ∧ (fndI T.A.ks k q (T.A.sz q) 0 = fndI T.A.ks k q (T.A.sz q - i) i) := hI
      show G x l (rmF 2 72) D 4 0 0 (wM cy cz m (ps M1 0 8 (T.rd + nI (d + 1)))) [(3, .int (nI i)), (2, .int (nI q)), (0, .ref (m 0)), (1, .int k)] [] 24
      refine g_iload_n C dX4_get_24 0 rfl rfl ?_
      refine g_aload_n C dX4_get_25 2 rfl rfl ?_
      refine g_get C 0 (f := 2) (v := .ref (m 3)) (Cn := RX4) (T := TX4) (N := 20) dX4_get_26 rfl rfl iX4_get_X4 (by decide) mX4_get_f16 rfl ?_
      refine g_iload_n C dX4_get_29 1 rfl rfl ?_
      refine g_iald C 3 0 (f := M1 3) (N := 128) q dX4_get_30 rfl rfl (by decide) (rfl) (hq) ?_
      refine g_top (b := nI (T.A.sz q)) ((congrFun u3 q).trans (hy.1.1.used hq)) ?_
      refine g_icmp_ge C (tgt := 65) dX4_get_31 (by decide) (fun c4 => ?_) (fun c4 => ?_)
      · skip
        have h3 : T.A.sz q ≤ i := (nI_leI (by omega) (by omega)).mp c4
        have e1 : fndI T.A.ks k q (T.A.sz q) 0 = none := by rw [k2, show T.A.sz q - i = 0 by omega]; rfl
        refine g_aload_n C dX4_get_65 2 rfl rfl ?_
        refine g_get C 0 (f := 3) (v := .ref (m 4)) (Cn := RX4) (T := TX4) (N := 20) dX4_get_66 rfl rfl iX4_get_X4 (by decide) mX4_get_f19 rfl ?_
        refine g_iload_n C dX4_get_69 1 rfl rfl ?_
        refine g_iald C 4 0 (f := M1 4) (N := 128) q dX4_get_70 rfl rfl (by decide) (rfl) (hq) ?_
        refine g_top (b := hdI r) ((congrFun u4 q).trans hn) ?_
        refine g_istore_n C (lv' := [(2, .int (hdI r)), (3, .int (nI i)), (0, .ref (m 0)), (1, .int k)]) dX4_get_71 rfl (by decide) rfl ?_
        refine g_goto C (tgt := 6) dX4_get_72 (by decide) ?_
        refine g_lv (lv' := [(2, .int (hdI r)), (0, .ref (m 0)), (1, .int k)]) [0, 2, 3] rfl ?_
        exact ih (r, d + 1, (ps M1 0 8 (T.rd + nI (d + 1)))) ⟨i1, by rw [i3]; exact fndL_miss e1, by rw [i4, rdL_miss e1]; omega, fun a ha => (show ps M1 0 8 (T.rd + nI (d + 1)) a = M1 a from by unfold ps; rw [if_neg (by omega)]).trans (i5 a ha), fun j hj => (show upd (M1 0) 8 (T.rd + nI (d + 1)) j = M1 0 j from pk_un hj).trans (i6 j hj), rfl⟩ (Nat.lt_succ_self _)
      · skip
        have h3 : i < T.A.sz q := Nat.lt_of_not_le (fun w => c4 (nI_le w (by omega)))
        refine g_aload_n C dX4_get_34 2 rfl rfl ?_
        refine g_get C 0 (f := 0) (v := .ref (m 1)) (Cn := RX4) (T := TX4) (N := 20) dX4_get_35 rfl rfl iX4_get_X4 (by decide) mX4_get_f7 rfl ?_
        refine g_iconst C (v := 4) dX4_get_38 (by decide) ?_
        refine g_iload_n C dX4_get_39 1 rfl rfl ?_
        refine g_imul C dX4_get_40 ?_
        refine g_top (b := nI (q * 4)) (mul4 q) ?_
        refine g_iload_n C dX4_get_41 0 rfl rfl ?_
        refine g_iadd C dX4_get_42 ?_
        refine g_top (b := nI (q * 4 + i)) (nI_add _ _) ?_
        refine g_iald C 1 0 (f := M1 1) (N := 512) (q * 4 + i) dX4_get_43 rfl rfl (by decide) (rfl) (by omega) ?_
        refine g_top (b := T.A.ks (q * 4 + i)) ((congrFun u1 _).trans (hy.1.1.key hq h3)) ?_
        refine g_iload_n C dX4_get_44 3 rfl rfl ?_
        refine g_icmp_ne C (tgt := 59) dX4_get_45 (by decide) (fun c5 => ?_) (fun c5 => ?_)
        · skip
          refine g_iinc C (q := 0) (v := nI (i + 1)) (lv' := [(3, .int (nI (i + 1))), (2, .int (nI q)), (0, .ref (m 0)), (1, .int k)]) dX4_get_59 rfl (nI_1 i) (by decide) rfl ?_
          refine g_goto C (tgt := 24) dX4_get_62 (by decide) ?_
          exact ih2 (i + 1) ⟨by omega, by rw [k2, fndI_miss h3 c5]⟩ (by show T.A.sz q - (i + 1) < T.A.sz q - i; omega)
        · skip
          refine g_aload_n C dX4_get_48 2 rfl rfl ?_
          refine g_get C 0 (f := 1) (v := .ref (m 2)) (Cn := RX4) (T := TX4) (N := 20) dX4_get_49 rfl rfl iX4_get_X4 (by decide) mX4_get_f13 rfl ?_
          refine g_iconst C (v := 4) dX4_get_52 (by decide) ?_
          refine g_iload_n C dX4_get_53 1 rfl rfl ?_
          refine g_imul C dX4_get_54 ?_
          refine g_top (b := nI (q * 4)) (mul4 q) ?_
          refine g_iload_n C dX4_get_55 0 rfl rfl ?_
          refine g_iadd C dX4_get_56 ?_
          refine g_top (b := nI (q * 4 + i)) (nI_add _ _) ?_
          refine g_iald C 2 0 (f := M1 2) (N := 512) (q * 4 + i) dX4_get_57 rfl rfl (by decide) (rfl) (by omega) ?_
          refine g_top (b := T.A.vs (q * 4 + i)) ((congrFun u2 _).trans (hy.1.1.val hq h3)) ?_
          have e1 : fndI T.A.ks k q (T.A.sz q) 0 = some (q * 4 + i) := by rw [k2, fndI_hit h3 c5]
          have e2 : T.A.fnd k = some (q * 4 + i) := by rw [i3]; exact fndL_hit e1
          exact ret _ (ps M1 0 8 (T.rd + nI (d + 1))) _ _ dX4_get_58 (by rw [aGet_fst e2, aGet_snd hy.1.1.1 hy.1.2.1 (n := d + 1) (by rw [i4, rdL_hit e1])]; exact ⟨rfl, RY_get hy (fun a ha => (show ps M1 0 8 (T.rd + nI (d + 1)) a = M1 a from by unfold ps; rw [if_neg (by omega)]).trans (i5 a ha)) (fun j hj => (show upd (M1 0) 8 (T.rd + nI (d + 1)) j = M1 0 j from pk_un hj).trans (i6 j hj)) rfl⟩)

theorem mX4_begin_f108 : Cond.fieldLink RX4 108 (TX4 14).1 (TX4 14).2.1 (TX4 14).2.2.1 ∈ wsX4_begin := List.mem_of_getElem? (i := 1) rfl
theorem iX4_begin_X4 : ∀ w ∈ wsX40, w ∈ wsX4_begin := by decide +kernel
theorem mX4_begin_f112 : Cond.fieldLink RX4 112 (TX4 15).1 (TX4 15).2.1 (TX4 15).2.2.1 ∈ wsX4_begin := List.mem_of_getElem? (i := 3) rfl
theorem mX4_begin_k139 : Cond.constant RX4 139 (-2000000002) ∈ wsX4_begin := List.mem_of_getElem? (i := 2) rfl
set_option maxHeartbeats 1600000 in
set_option maxRecDepth 20000 in
theorem c_X4_begin (l : Launch) (D : va_G) (cy cz : ClassId) (m : Nat → Nat) (M : Mem) (T : TS) (hy : RY T M) : MI l yX4_begin wsX4_begin (rmF 0 0) D (tyL cy cz) [.ref (m 0)] (wM cy cz m M) (fun (r : Int32) (M1 : Mem) => r = (aBegin T).1 ∧ RY (aBegin T).2 M1) (fun M1 => (wM cy cz m M1)) := by
  refine g_entI (cc := cX4_begin) (maxL := 1) (own := RX4) (by decide) rfl rfl (Nat.le_of_ble_eq_true rfl) (fun x C ret => ?_)
  show G x l (rmF 0 0) D 1 0 0 (wM cy cz m M) [(0, .ref (m 0))] [] 0
  have hsp := hy.2.2.2.2.2.2.2.1
  have hgl := hy.2.2.2.2.2.2.2.2.2.2.gl
  have hwl := hy.2.2.2.2.2.2.2.2.2.2.2.1
  rcases ho : T.op with _ | n
  · skip
    rw [ho] at hsp hwl
    refine g_aload_n C dX4_begin_0 0 rfl rfl ?_
    refine g_get C 0 (f := 14) (v := .int (M 0 6)) (Cn := RX4) (T := TX4) (N := 20) dX4_begin_1 rfl rfl iX4_begin_X4 (by decide) mX4_begin_f108 rfl ?_
    refine g_top (b := 0) (hsp) ?_
    refine g_if_eq C (tgt := 10) dX4_begin_4 (by decide) (fun c1 => ?_) (fun c1 => ?_)
    · skip
      refine g_aload_n C dX4_begin_10 0 rfl rfl ?_
      refine g_iconst C (v := 1) dX4_begin_11 (by decide) ?_
      refine g_put C 0 (f := 14) (v := .int 1) (ty := .boolean) (Cn := RX4) (T := TX4) (N := 20) (ws' := (wM cy cz m (ps M 0 6 1))) dX4_begin_12 rfl rfl iX4_begin_X4 tyX4 tyX4_ok nmX4 (by decide) mX4_begin_f108 rfl rfl (by decide) (by decide) (Nat.le_of_ble_eq_true rfl) (wM_s6 cy cz m M 1) ?_
      refine g_aload_n C dX4_begin_15 0 rfl rfl ?_
      refine g_iconst C (v := 0) dX4_begin_16 (by decide) ?_
      refine g_put C 0 (f := 15) (v := .int 0) (ty := .int) (Cn := RX4) (T := TX4) (N := 20) (ws' := (wM cy cz m (ps (ps M 0 6 1) 0 7 0))) dX4_begin_17 rfl rfl iX4_begin_X4 tyX4 tyX4_ok nmX4 (by decide) mX4_begin_f112 rfl rfl (rfl) (rfl) (Nat.le_of_ble_eq_true rfl) (wM_s7 cy cz m (ps M 0 6 1) 0) ?_
      refine g_iconst C (v := 0) dX4_begin_20 (by decide) ?_
      exact ret _ (ps (ps M 0 6 1) 0 7 0) _ _ dX4_begin_21 (by unfold aBegin; rw [ho]; exact ⟨rfl, hy.1, hy.2.1, hy.2.2.1, hy.2.2.2.1, hy.2.2.2.2.1, hy.2.2.2.2.2.1, hy.2.2.2.2.2.2.1, rfl, fun k hk => (by cases hk; rfl), hy.2.2.2.2.2.2.2.2.2.1, hy.2.2.2.2.2.2.2.2.2.2.1, hwl, hy.2.2.2.2.2.2.2.2.2.2.2.2⟩)
    · skip
      exact absurd rfl (c1)
  · skip
    rw [ho] at hsp hwl
    have hwl : T.w.length = T.gs.sum + n := hwl
    refine g_aload_n C dX4_begin_0 0 rfl rfl ?_
    refine g_get C 0 (f := 14) (v := .int (M 0 6)) (Cn := RX4) (T := TX4) (N := 20) dX4_begin_1 rfl rfl iX4_begin_X4 (by decide) mX4_begin_f108 rfl ?_
    refine g_top (b := 1) (hsp) ?_
    refine g_if_eq C (tgt := 10) dX4_begin_4 (by decide) (fun c1 => ?_) (fun c1 => ?_)
    · skip
      exact absurd c1 (by decide)
    · skip
      refine g_ldc C (v := (-2000000002)) mX4_begin_k139 dX4_begin_7 ?_
      exact ret _ M _ _ dX4_begin_9 (by unfold aBegin; rw [ho]; exact ⟨rfl, hy⟩)

theorem mX4_end_f108 : Cond.fieldLink RX4 108 (TX4 14).1 (TX4 14).2.1 (TX4 14).2.2.1 ∈ wsX4_end := List.mem_of_getElem? (i := 1) rfl
theorem iX4_end_X4 : ∀ w ∈ wsX40, w ∈ wsX4_end := by decide +kernel
theorem mX4_end_k139 : Cond.constant RX4 139 (-2000000002) ∈ wsX4_end := List.mem_of_getElem? (i := 2) rfl
theorem mX4_end_f112 : Cond.fieldLink RX4 112 (TX4 15).1 (TX4 15).2.1 (TX4 15).2.2.1 ∈ wsX4_end := List.mem_of_getElem? (i := 3) rfl
theorem mX4_end_f32 : Cond.fieldLink RX4 32 (TX4 12).1 (TX4 12).2.1 (TX4 12).2.2.1 ∈ wsX4_end := List.mem_of_getElem? (i := 4) rfl
theorem mX4_end_f115 : Cond.fieldLink RX4 115 (TX4 13).1 (TX4 13).2.1 (TX4 13).2.2.1 ∈ wsX4_end := List.mem_of_getElem? (i := 5) rfl
set_option maxHeartbeats 1600000 in
set_option maxRecDepth 20000 in
theorem c_X4_end (l : Launch) (D : va_G) (cy cz : ClassId) (m : Nat → Nat) (M : Mem) (T : TS) (hy : RY T M) : MI l yX4_end wsX4_end (rmF 0 0) D (tyL cy cz) [.ref (m 0)] (wM cy cz m M) (fun (r : Int32) (M1 : Mem) => r = (aEnd T).1 ∧ RY (aEnd T).2 M1) (fun M1 => (wM cy cz m M1)) := by
  refine g_entI (cc := cX4_end) (maxL := 1) (own := RX4) (by decide) rfl rfl (Nat.le_of_ble_eq_true rfl) (fun x C ret => ?_)
  show G x l (rmF 0 0) D 1 0 0 (wM cy cz m M) [(0, .ref (m 0))] [] 0
  have hsp := hy.2.2.2.2.2.2.2.1
  have hgl := hy.2.2.2.2.2.2.2.2.2.2.gl
  have hwl := hy.2.2.2.2.2.2.2.2.2.2.2.1
  rcases ho : T.op with _ | n
  · skip
    rw [ho] at hsp hwl
    refine g_aload_n C dX4_end_0 0 rfl rfl ?_
    refine g_get C 0 (f := 14) (v := .int (M 0 6)) (Cn := RX4) (T := TX4) (N := 20) dX4_end_1 rfl rfl iX4_end_X4 (by decide) mX4_end_f108 rfl ?_
    refine g_top (b := 0) (hsp) ?_
    refine g_if_ne C (tgt := 10) dX4_end_4 (by decide) (fun c1 => ?_) (fun c1 => ?_)
    · skip
      exact absurd rfl (c1)
    · skip
      refine g_ldc C (v := (-2000000002)) mX4_end_k139 dX4_end_7 ?_
      exact ret _ M _ _ dX4_end_9 (by unfold aEnd; rw [ho]; exact ⟨rfl, hy⟩)
  · skip
    rw [ho] at hsp hwl
    have hwl : T.w.length = T.gs.sum + n := hwl
    refine g_aload_n C dX4_end_0 0 rfl rfl ?_
    refine g_get C 0 (f := 14) (v := .int (M 0 6)) (Cn := RX4) (T := TX4) (N := 20) dX4_end_1 rfl rfl iX4_end_X4 (by decide) mX4_end_f108 rfl ?_
    refine g_top (b := 1) (hsp) ?_
    refine g_if_ne C (tgt := 10) dX4_end_4 (by decide) (fun c1 => ?_) (fun c1 => ?_)
    · skip
      refine g_aload_n C dX4_end_10 0 rfl rfl ?_
      refine g_iconst C (v := 0) dX4_end_11 (by decide) ?_
      refine g_put C 0 (f := 14) (v := .int 0) (ty := .boolean) (Cn := RX4) (T := TX4) (N := 20) (ws' := (wM cy cz m (ps M 0 6 0))) dX4_end_12 rfl rfl iX4_end_X4 tyX4 tyX4_ok nmX4 (by decide) mX4_end_f108 rfl rfl (by decide) (by decide) (Nat.le_of_ble_eq_true rfl) (wM_s6 cy cz m M 0) ?_
      refine g_aload_n C dX4_end_15 0 rfl rfl ?_
      refine g_get C 0 (f := 15) (v := .int (M 0 7)) (Cn := RX4) (T := TX4) (N := 20) dX4_end_16 rfl rfl iX4_end_X4 (by decide) mX4_end_f112 rfl ?_
      refine g_top (b := nI n) (hy.2.2.2.2.2.2.2.2.1 n ho) ?_
      refine g_if_le C (tgt := 45) dX4_end_19 (by decide) (fun c2 => ?_) (fun c2 => ?_)
      · skip
        have hm : n = 0 := by have := (nI_leI (b := 0) (by omega) (by decide)).mp c2; omega
        refine g_aload_n C dX4_end_45 0 rfl rfl ?_
        refine g_get C 0 (f := 15) (v := .int (M 0 7)) (Cn := RX4) (T := TX4) (N := 20) dX4_end_46 rfl rfl iX4_end_X4 (by decide) mX4_end_f112 rfl ?_
        refine g_top (b := nI n) (hy.2.2.2.2.2.2.2.2.1 n ho) ?_
        exact ret _ (ps M 0 6 0) _ _ dX4_end_49 (by unfold aEnd; rw [ho]; show _ ∧ RY (T.kl, T.w, (if n = 0 then T.gs else T.gs ++ [n]), none, T.rd) _; rw [if_pos hm]; exact ⟨rfl, hy.1, hy.2.1, hy.2.2.1, hy.2.2.2.1, hy.2.2.2.2.1, hy.2.2.2.2.2.1, hy.2.2.2.2.2.2.1, rfl, fun k hk => (by cases hk), hy.2.2.2.2.2.2.2.2.2.1, hy.2.2.2.2.2.2.2.2.2.2.1, (by rw [hm] at hwl; exact hwl), hy.2.2.2.2.2.2.2.2.2.2.2.2⟩)
      · skip
        have hm : ¬ n = 0 := fun w => c2 (by rw [w]; decide)
        refine g_aload_n C dX4_end_22 0 rfl rfl ?_
        refine g_get C 0 (f := 12) (v := .ref (m 8)) (Cn := RX4) (T := TX4) (N := 20) dX4_end_23 rfl rfl iX4_end_X4 (by decide) mX4_end_f32 rfl ?_
        refine g_aload_n C dX4_end_26 0 rfl rfl ?_
        refine g_get C 0 (f := 13) (v := .int (M 0 5)) (Cn := RX4) (T := TX4) (N := 20) dX4_end_27 rfl rfl iX4_end_X4 (by decide) mX4_end_f115 rfl ?_
        refine g_top (b := nI T.gs.length) (hy.2.2.2.2.2.1) ?_
        refine g_aload_n C dX4_end_30 0 rfl rfl ?_
        refine g_get C 0 (f := 15) (v := .int (M 0 7)) (Cn := RX4) (T := TX4) (N := 20) dX4_end_31 rfl rfl iX4_end_X4 (by decide) mX4_end_f112 rfl ?_
        refine g_top (b := nI n) (hy.2.2.2.2.2.2.2.2.1 n ho) ?_
        refine g_iast C 8 0 (f := (ps M 0 6 0) 8) (N := 64) (ws' := (wM cy cz m (ps (ps M 0 6 0) 8 T.gs.length (nI n)))) T.gs.length dX4_end_34 rfl rfl (by decide) (rfl) (by omega) (wM_a8 cy cz m (ps M 0 6 0) T.gs.length (nI n)) ?_
        refine g_aload_n C dX4_end_35 0 rfl rfl ?_
        refine g_dup C dX4_end_36 rfl ?_
        refine g_get C 0 (f := 13) (v := .int (M 0 5)) (Cn := RX4) (T := TX4) (N := 20) dX4_end_37 rfl rfl iX4_end_X4 (by decide) mX4_end_f115 rfl ?_
        refine g_top (b := nI T.gs.length) (hy.2.2.2.2.2.1) ?_
        refine g_iconst C (v := 1) dX4_end_40 (by decide) ?_
        refine g_iadd C dX4_end_41 ?_
        refine g_top (b := nI (T.gs.length + 1)) (nI_1 _) ?_
        refine g_put C 0 (f := 13) (v := .int (nI (T.gs.length + 1))) (ty := .int) (Cn := RX4) (T := TX4) (N := 20) (ws' := (wM cy cz m (ps (ps (ps M 0 6 0) 8 T.gs.length (nI n)) 0 5 (nI (T.gs.length + 1))))) dX4_end_42 rfl rfl iX4_end_X4 tyX4 tyX4_ok nmX4 (by decide) mX4_end_f115 rfl rfl (rfl) (rfl) (Nat.le_of_ble_eq_true rfl) (wM_s5 cy cz m (ps (ps M 0 6 0) 8 T.gs.length (nI n)) (nI (T.gs.length + 1))) ?_
        refine g_aload_n C dX4_end_45 0 rfl rfl ?_
        refine g_get C 0 (f := 15) (v := .int (M 0 7)) (Cn := RX4) (T := TX4) (N := 20) dX4_end_46 rfl rfl iX4_end_X4 (by decide) mX4_end_f112 rfl ?_
        refine g_top (b := nI n) (hy.2.2.2.2.2.2.2.2.1 n ho) ?_
        exact ret _ (ps (ps (ps M 0 6 0) 8 T.gs.length (nI n)) 0 5 (nI (T.gs.length + 1))) _ _ dX4_end_49 (by unfold aEnd; rw [ho]; show _ ∧ RY (T.kl, T.w, (if n = 0 then T.gs else T.gs ++ [n]), none, T.rd) _; rw [if_neg hm]; exact ⟨rfl, hy.1, hy.2.1, hy.2.2.1, hy.2.2.2.1, hy.2.2.2.2.1, gl_snoc _ _, g8_snoc hy.2.2.2.2.2.2.1, rfl, fun k hk => (by cases hk), hy.2.2.2.2.2.2.2.2.2.1, hy.2.2.2.2.2.2.2.2.2.2.1, sum_snoc hwl, hy.2.2.2.2.2.2.2.2.2.2.2.2.1, ge_snoc hy.2.2.2.2.2.2.2.2.2.2.2.2.2 (by omega)⟩)
    · skip
      exact absurd c1 (by decide)

theorem mX4_undo_f108 : Cond.fieldLink RX4 108 (TX4 14).1 (TX4 14).2.1 (TX4 14).2.2.1 ∈ wsX4_undo := List.mem_of_getElem? (i := 1) rfl
theorem iX4_undo_X4 : ∀ w ∈ wsX40, w ∈ wsX4_undo := by decide +kernel
theorem mX4_undo_k139 : Cond.constant RX4 139 (-2000000002) ∈ wsX4_undo := List.mem_of_getElem? (i := 2) rfl
theorem mX4_undo_f112 : Cond.fieldLink RX4 112 (TX4 15).1 (TX4 15).2.1 (TX4 15).2.2.1 ∈ wsX4_undo := List.mem_of_getElem? (i := 3) rfl
theorem mX4_undo_f105 : Cond.fieldLink RX4 105 (TX4 10).1 (TX4 10).2.1 (TX4 10).2.2.1 ∈ wsX4_undo := List.mem_of_getElem? (i := 4) rfl
set_option maxHeartbeats 1600000 in
set_option maxRecDepth 20000 in
theorem c_X4_undo (l : Launch) (D : va_G) (cy cz : ClassId) (m : Nat → Nat) (M : Mem) (T : TS) (hy : RY T M) (hN : T.log.length < 4200) : MI l yX4_undo wsX4_undo (rmF 6 216) D (tyL cy cz) [.ref (m 0)] (wM cy cz m M) (fun (r : Int32) (M1 : Mem) => r = (aUndo T).1 ∧ RY (aUndo T).2 M1) (fun M1 => (wM cy cz m M1)) := by
  refine g_entI (cc := cX4_undo) (maxL := 2) (own := RX4) (by decide) rfl rfl (Nat.le_of_ble_eq_true rfl) (fun x C ret => ?_)
  show G x l (rmF 6 216) D 2 0 0 (wM cy cz m M) [(0, .ref (m 0))] [] 0
  have hsp := hy.2.2.2.2.2.2.2.1
  have hgl := hy.2.2.2.2.2.2.2.2.2.2.gl
  have hwl := hy.2.2.2.2.2.2.2.2.2.2.2.1
  rcases ho : T.op with _ | n
  · skip
    rw [ho] at hsp hwl
    refine g_aload_n C dX4_undo_0 0 rfl rfl ?_
    refine g_get C 0 (f := 14) (v := .int (M 0 6)) (Cn := RX4) (T := TX4) (N := 20) dX4_undo_1 rfl rfl iX4_undo_X4 (by decide) mX4_undo_f108 rfl ?_
    refine g_top (b := 0) (hsp) ?_
    refine g_if_ne C (tgt := 10) dX4_undo_4 (by decide) (fun c1 => ?_) (fun c1 => ?_)
    · skip
      exact absurd rfl (c1)
    · skip
      refine g_ldc C (v := (-2000000002)) mX4_undo_k139 dX4_undo_7 ?_
      exact ret _ M _ _ dX4_undo_9 (by unfold aUndo; rw [ho]; exact ⟨rfl, hy⟩)
  · skip
    rw [ho] at hsp hwl
    have hwl : T.w.length = T.gs.sum + n := hwl
    refine g_aload_n C dX4_undo_0 0 rfl rfl ?_
    refine g_get C 0 (f := 14) (v := .int (M 0 6)) (Cn := RX4) (T := TX4) (N := 20) dX4_undo_1 rfl rfl iX4_undo_X4 (by decide) mX4_undo_f108 rfl ?_
    refine g_top (b := 1) (hsp) ?_
    refine g_if_ne C (tgt := 10) dX4_undo_4 (by decide) (fun c1 => ?_) (fun c1 => ?_)
    · skip
      refine g_aload_n C dX4_undo_10 0 rfl rfl ?_
      refine g_iconst C (v := 0) dX4_undo_11 (by decide) ?_
      refine g_put C 0 (f := 14) (v := .int 0) (ty := .boolean) (Cn := RX4) (T := TX4) (N := 20) (ws' := (wM cy cz m (ps M 0 6 0))) dX4_undo_12 rfl rfl iX4_undo_X4 tyX4 tyX4_ok nmX4 (by decide) mX4_undo_f108 rfl rfl (by decide) (by decide) (Nat.le_of_ble_eq_true rfl) (wM_s6 cy cz m M 0) ?_
      have hll := log_len T
      have hlt : T.log.take (T.log.length - n) = T.kl ++ T.w.take T.gs.sum := by rw [← log_take]; congr 1; omega
      refine g_aload_n C dX4_undo_15 0 rfl rfl ?_
      refine g_get C 0 (f := 15) (v := .int (M 0 7)) (Cn := RX4) (T := TX4) (N := 20) dX4_undo_16 rfl rfl iX4_undo_X4 (by decide) mX4_undo_f112 rfl ?_
      refine g_top (b := nI n) (hy.2.2.2.2.2.2.2.2.1 n ho) ?_
      refine g_istore_n C (lv' := [(1, .int (nI n)), (0, .ref (m 0))]) dX4_undo_19 rfl (by decide) rfl ?_
      refine g_aload_n C dX4_undo_20 1 rfl rfl ?_
      refine g_aload_n C dX4_undo_21 1 rfl rfl ?_
      refine g_get C 0 (f := 10) (v := .int (M 0 3)) (Cn := RX4) (T := TX4) (N := 20) dX4_undo_22 rfl rfl iX4_undo_X4 (by decide) mX4_undo_f105 rfl ?_
      refine g_top (b := nI T.log.length) (hy.2.2.1) ?_
      refine g_iload_n C dX4_undo_25 0 rfl rfl ?_
      refine g_isub C dX4_undo_26 ?_
      refine g_top (b := nI (T.log.length - n)) (pk_sub (by omega)) ?_
      refine g_callVV C [0, 1, 2, 3, 4, 5, 6, 7, 8, 9, 10] [] [0, 1, 2, 3, 4, 5, 6, 7, 8, 9, 10] 0 4 (b := m 0) rfl rfl (As := [.int (nI (T.log.length - n))]) (rest := []) (wr := ([] : va_W)) (wf := fun M3 => (wM cy cz m M3)) dX4_undo_27 gX4_undo_X4_again rfl dmX4_again ⟨rfl, rfl, Nat.le_of_ble_eq_true rfl, Nat.le_of_ble_eq_true rfl, Nat.zero_le _, Nat.zero_le _⟩ (c_X4_again l D cy cz m (ps M 0 6 0) T.log (T.log.length - n) hy.2.2.2.2.1 hy.2.2.2.2.2.2.2.2.2.2.1 (by omega) (by omega)) ⟨rfl, rfl, rfl, rfl, by decide, rfl, fun _ => rfl⟩ (Nat.le_of_ble_eq_true rfl) ?_
      intro M3 hp3
      show G x l (rmF 6 216) D 2 0 0 (wM cy cz m M3) [(1, .int (nI n)), (0, .ref (m 0))] [] 30
      refine g_iload_n C dX4_undo_30 0 rfl rfl ?_
      exact ret _ M3 _ _ dX4_undo_31 (by obtain ⟨z1, z2, z3, z6, z7, z8, zj⟩ := hp3; exact ⟨by unfold aUndo; rw [ho], (by unfold aUndo; rw [ho]; exact RY_cut hy hlt (by omega) z1 z2 z3 z6 z7 ((zj 4 (by decide) (by decide)).trans hy.2.2.2.1) ((zj 5 (by decide) (by decide)).trans hy.2.2.2.2.2.1) (fun i hi => (congrFun z8 i).trans (hy.2.2.2.2.2.2.1 i hi)) (zj 6 (by decide) (by decide)) ((zj 8 (by decide) (by decide)).trans hy.2.2.2.2.2.2.2.2.2.1) (WT_cut hy.2.2.2.2.2.2.2.2.2.2))⟩)
    · skip
      exact absurd c1 (by decide)

theorem mX4_keep_f108 : Cond.fieldLink RX4 108 (TX4 14).1 (TX4 14).2.1 (TX4 14).2.2.1 ∈ wsX4_keep := List.mem_of_getElem? (i := 1) rfl
theorem iX4_keep_X4 : ∀ w ∈ wsX40, w ∈ wsX4_keep := by decide +kernel
theorem mX4_keep_f105 : Cond.fieldLink RX4 105 (TX4 10).1 (TX4 10).2.1 (TX4 10).2.2.1 ∈ wsX4_keep := List.mem_of_getElem? (i := 3) rfl
theorem mX4_keep_f122 : Cond.fieldLink RX4 122 (TX4 11).1 (TX4 11).2.1 (TX4 11).2.2.1 ∈ wsX4_keep := List.mem_of_getElem? (i := 4) rfl
theorem mX4_keep_f115 : Cond.fieldLink RX4 115 (TX4 13).1 (TX4 13).2.1 (TX4 13).2.2.1 ∈ wsX4_keep := List.mem_of_getElem? (i := 5) rfl
theorem mX4_keep_k139 : Cond.constant RX4 139 (-2000000002) ∈ wsX4_keep := List.mem_of_getElem? (i := 2) rfl
set_option maxHeartbeats 1600000 in
set_option maxRecDepth 20000 in
theorem c_X4_keep (l : Launch) (D : va_G) (cy cz : ClassId) (m : Nat → Nat) (M : Mem) (T : TS) (hy : RY T M) : MI l yX4_keep wsX4_keep (rmF 0 0) D (tyL cy cz) [.ref (m 0)] (wM cy cz m M) (fun (r : Int32) (M1 : Mem) => r = (aKeep T).1 ∧ RY (aKeep T).2 M1) (fun M1 => (wM cy cz m M1)) := by
  refine g_entI (cc := cX4_keep) (maxL := 2) (own := RX4) (by decide) rfl rfl (Nat.le_of_ble_eq_true rfl) (fun x C ret => ?_)
  show G x l (rmF 0 0) D 2 0 0 (wM cy cz m M) [(0, .ref (m 0))] [] 0
  have hsp := hy.2.2.2.2.2.2.2.1
  have hgl := hy.2.2.2.2.2.2.2.2.2.2.gl
  have hwl := hy.2.2.2.2.2.2.2.2.2.2.2.1
  rcases ho : T.op with _ | n
  · skip
    rw [ho] at hsp hwl
    refine g_aload_n C dX4_keep_0 0 rfl rfl ?_
    refine g_get C 0 (f := 14) (v := .int (M 0 6)) (Cn := RX4) (T := TX4) (N := 20) dX4_keep_1 rfl rfl iX4_keep_X4 (by decide) mX4_keep_f108 rfl ?_
    refine g_top (b := 0) (hsp) ?_
    refine g_if_eq C (tgt := 10) dX4_keep_4 (by decide) (fun c1 => ?_) (fun c1 => ?_)
    · skip
      have hll := log_len T
      refine g_aload_n C dX4_keep_10 0 rfl rfl ?_
      refine g_get C 0 (f := 10) (v := .int (M 0 3)) (Cn := RX4) (T := TX4) (N := 20) dX4_keep_11 rfl rfl iX4_keep_X4 (by decide) mX4_keep_f105 rfl ?_
      refine g_top (b := nI T.log.length) (hy.2.2.1) ?_
      refine g_aload_n C dX4_keep_14 0 rfl rfl ?_
      refine g_get C 0 (f := 11) (v := .int (M 0 4)) (Cn := RX4) (T := TX4) (N := 20) dX4_keep_15 rfl rfl iX4_keep_X4 (by decide) mX4_keep_f122 rfl ?_
      refine g_top (b := nI T.kl.length) (hy.2.2.2.1) ?_
      refine g_isub C dX4_keep_18 ?_
      refine g_top (b := nI T.w.length) ((pk_sub (by omega)).trans (congrArg nI (by omega))) ?_
      refine g_istore_n C (lv' := [(1, .int (nI T.w.length)), (0, .ref (m 0))]) dX4_keep_19 rfl (by decide) rfl ?_
      refine g_aload_n C dX4_keep_20 1 rfl rfl ?_
      refine g_aload_n C dX4_keep_21 1 rfl rfl ?_
      refine g_get C 0 (f := 10) (v := .int (M 0 3)) (Cn := RX4) (T := TX4) (N := 20) dX4_keep_22 rfl rfl iX4_keep_X4 (by decide) mX4_keep_f105 rfl ?_
      refine g_top (b := nI T.log.length) (hy.2.2.1) ?_
      refine g_put C 0 (f := 11) (v := .int (nI T.log.length)) (ty := .int) (Cn := RX4) (T := TX4) (N := 20) (ws' := (wM cy cz m (ps M 0 4 (nI T.log.length)))) dX4_keep_25 rfl rfl iX4_keep_X4 tyX4 tyX4_ok nmX4 (by decide) mX4_keep_f122 rfl rfl (rfl) (rfl) (Nat.le_of_ble_eq_true rfl) (wM_s4 cy cz m M (nI T.log.length)) ?_
      refine g_aload_n C dX4_keep_28 1 rfl rfl ?_
      refine g_iconst C (v := 0) dX4_keep_29 (by decide) ?_
      refine g_put C 0 (f := 13) (v := .int 0) (ty := .int) (Cn := RX4) (T := TX4) (N := 20) (ws' := (wM cy cz m (ps (ps M 0 4 (nI T.log.length)) 0 5 0))) dX4_keep_30 rfl rfl iX4_keep_X4 tyX4 tyX4_ok nmX4 (by decide) mX4_keep_f115 rfl rfl (rfl) (rfl) (Nat.le_of_ble_eq_true rfl) (wM_s5 cy cz m (ps M 0 4 (nI T.log.length)) 0) ?_
      refine g_iload_n C dX4_keep_33 0 rfl rfl ?_
      exact ret _ (ps (ps M 0 4 (nI T.log.length)) 0 5 0) _ _ dX4_keep_34 (by have hw := WT_kept hy.2.2.2.2.2.2.2.2.2.2 T.w.length; rw [List.take_length] at hw; unfold aKeep; rw [ho]; exact ⟨rfl, RY_cut (k := T.kl ++ T.w) (w := []) hy (n := T.log.length) (by rw [List.take_length, List.append_nil]; rfl) (Nat.le_refl _) (by rw [List.take_length]; exact hy.1) (by rw [List.take_length]; exact hy.2.1) hy.2.2.1 rfl rfl rfl rfl (fun i hi => absurd hi (Nat.not_lt_zero _)) hsp hy.2.2.2.2.2.2.2.2.2.1 hw⟩)
    · skip
      exact absurd rfl (c1)
  · skip
    rw [ho] at hsp hwl
    have hwl : T.w.length = T.gs.sum + n := hwl
    refine g_aload_n C dX4_keep_0 0 rfl rfl ?_
    refine g_get C 0 (f := 14) (v := .int (M 0 6)) (Cn := RX4) (T := TX4) (N := 20) dX4_keep_1 rfl rfl iX4_keep_X4 (by decide) mX4_keep_f108 rfl ?_
    refine g_top (b := 1) (hsp) ?_
    refine g_if_eq C (tgt := 10) dX4_keep_4 (by decide) (fun c1 => ?_) (fun c1 => ?_)
    · skip
      exact absurd c1 (by decide)
    · skip
      refine g_ldc C (v := (-2000000002)) mX4_keep_k139 dX4_keep_7 ?_
      exact ret _ M _ _ dX4_keep_9 (by unfold aKeep; rw [ho]; exact ⟨rfl, hy⟩)

theorem mX4_stop_f122 : Cond.fieldLink RX4 122 (TX4 11).1 (TX4 11).2.1 (TX4 11).2.2.1 ∈ wsX4_stop := List.mem_of_getElem? (i := 2) rfl
theorem iX4_stop_X4 : ∀ w ∈ wsX40, w ∈ wsX4_stop := by decide +kernel
theorem mX4_stop_f115 : Cond.fieldLink RX4 115 (TX4 13).1 (TX4 13).2.1 (TX4 13).2.2.1 ∈ wsX4_stop := List.mem_of_getElem? (i := 3) rfl
theorem mX4_stop_f105 : Cond.fieldLink RX4 105 (TX4 10).1 (TX4 10).2.1 (TX4 10).2.2.1 ∈ wsX4_stop := List.mem_of_getElem? (i := 5) rfl
theorem mX4_stop_f108 : Cond.fieldLink RX4 108 (TX4 14).1 (TX4 14).2.1 (TX4 14).2.2.1 ∈ wsX4_stop := List.mem_of_getElem? (i := 6) rfl
theorem mX4_stop_f32 : Cond.fieldLink RX4 32 (TX4 12).1 (TX4 12).2.1 (TX4 12).2.2.1 ∈ wsX4_stop := List.mem_of_getElem? (i := 4) rfl
theorem mX4_stop_k126 : Cond.constant RX4 126 (-2000000001) ∈ wsX4_stop := List.mem_of_getElem? (i := 1) rfl
set_option maxHeartbeats 1600000 in
set_option maxRecDepth 20000 in
theorem c_X4_stop (l : Launch) (D : va_G) (cy cz : ClassId) (m : Nat → Nat) (M : Mem) (T : TS) (n : Int32) (hy : RY T M) (hN : T.log.length < 4200) : MI l yX4_stop wsX4_stop (rmF 6 216) D (tyL cy cz) [.ref (m 0), .int n] (wM cy cz m M) (fun (r : Int32) (M1 : Mem) => r = (aStop T n).1 ∧ RY (aStop T n).2 M1) (fun M1 => (wM cy cz m M1)) := by
  refine g_entI (cc := cX4_stop) (maxL := 4) (own := RX4) (by decide) rfl rfl (Nat.le_of_ble_eq_true rfl) (fun x C ret => ?_)
  show G x l (rmF 6 216) D 4 0 0 (wM cy cz m M) [(0, .ref (m 0)), (1, .int n)] [] 0
  refine g_iload_n C dX4_stop_0 1 rfl rfl ?_
  refine g_if_ge C (tgt := 7) dX4_stop_1 (by decide) (fun c1 => ?_) (fun c1 => ?_)
  · skip
    obtain ⟨kk, hkk, rfl⟩ := nI_of (x := n) (Int32.not_lt.mpr c1)
    have hgl := hy.2.2.2.2.2.2.2.2.2.2.gl
    have hll := log_len T
    show G x l (rmF 6 216) D 4 0 0 (wM cy cz m M) [(0, .ref (m 0)), (1, .int (nI kk))] [] 7
    refine g_aload_n C dX4_stop_7 0 rfl rfl ?_
    refine g_get C 0 (f := 11) (v := .int (M 0 4)) (Cn := RX4) (T := TX4) (N := 20) dX4_stop_8 rfl rfl iX4_stop_X4 (by decide) mX4_stop_f122 rfl ?_
    refine g_top (b := nI T.kl.length) (hy.2.2.2.1) ?_
    refine g_istore_n C (lv' := [(2, .int (nI T.kl.length)), (0, .ref (m 0)), (1, .int (nI kk))]) dX4_stop_11 rfl (by decide) rfl ?_
    refine g_iconst C (v := 0) dX4_stop_12 (by decide) ?_
    refine g_istore_n C (lv' := [(3, .int 0), (2, .int (nI T.kl.length)), (0, .ref (m 0)), (1, .int (nI kk))]) dX4_stop_13 rfl (by decide) rfl ?_
    refine g_lv (lv' := [(2, .int (nI T.kl.length)), (3, .int 0), (0, .ref (m 0)), (1, .int (nI kk))]) [1, 0, 2, 3] rfl ?_
    refine g_loop (σ := Nat) (fun (a : Nat) => match a with | g => (wM cy cz m M)) (fun (a : Nat) => match a with | g => [(2, .int (nI (T.kl.length + (T.gs.take g).sum))), (3, .int (nI g)), (0, .ref (m 0)), (1, .int (nI kk))]) (fun (a : Nat) => match a with | g => (g ≤ T.gs.length) ∧ (g ≤ kk)) (fun (a : Nat) => match a with | g => T.gs.length - g) ?_ 0 (⟨Nat.zero_le _, Nat.zero_le _⟩)
    intro a hI ih
    obtain ⟨g, rfl⟩ : ∃ z, z = a := ⟨_, rfl⟩
    obtain ⟨i1, i2⟩ : (g ≤ T.gs.length) ∧ (g ≤ kk) := hI
    show G x l (rmF 6 216) D 4 0 0 (wM cy cz m M) [(2, .int (nI (T.kl.length + (T.gs.take g).sum))), (3, .int (nI g)), (0, .ref (m 0)), (1, .int (nI kk))] [] 14
    have hsg := sum_take_le T.gs g
    refine g_iload_n C dX4_stop_14 1 rfl rfl ?_
    refine g_aload_n C dX4_stop_15 2 rfl rfl ?_
    refine g_get C 0 (f := 13) (v := .int (M 0 5)) (Cn := RX4) (T := TX4) (N := 20) dX4_stop_16 rfl rfl iX4_stop_X4 (by decide) mX4_stop_f115 rfl ?_
    refine g_top (b := nI T.gs.length) (hy.2.2.2.2.2.1) ?_
    refine g_icmp_ge C (tgt := 42) dX4_stop_19 (by decide) (fun c2 => ?_) (fun c2 => ?_)
    · skip
      have hg : T.gs.take g = T.gs.take kk := by have := (nI_leI (by omega) (by omega)).mp c2; rw [List.take_of_length_le (by omega), List.take_of_length_le (by omega)]
      refine g_aload_n C dX4_stop_42 2 rfl rfl ?_
      refine g_get C 0 (f := 10) (v := .int (M 0 3)) (Cn := RX4) (T := TX4) (N := 20) dX4_stop_43 rfl rfl iX4_stop_X4 (by decide) mX4_stop_f105 rfl ?_
      refine g_top (b := nI T.log.length) (hy.2.2.1) ?_
      refine g_iload_n C dX4_stop_46 0 rfl rfl ?_
      refine g_isub C dX4_stop_47 ?_
      refine g_top (b := nI (T.w.length - (T.gs.take g).sum)) ((pk_sub (by omega)).trans (congrArg nI (by omega))) ?_
      refine g_istore_n C (lv' := [(3, .int (nI (T.w.length - (T.gs.take g).sum))), (2, .int (nI (T.kl.length + (T.gs.take g).sum))), (0, .ref (m 0)), (1, .int (nI kk))]) dX4_stop_48 rfl (by decide) rfl ?_
      refine g_aload_n C dX4_stop_49 2 rfl rfl ?_
      refine g_iload_n C dX4_stop_50 1 rfl rfl ?_
      refine g_callVV C [0, 1, 2, 3, 4, 5, 6, 7, 8, 9, 10] [] [0, 1, 2, 3, 4, 5, 6, 7, 8, 9, 10] 0 4 (b := m 0) rfl rfl (As := [.int (nI (T.kl.length + (T.gs.take g).sum))]) (rest := []) (wr := ([] : va_W)) (wf := fun M3 => (wM cy cz m M3)) dX4_stop_51 gX4_stop_X4_again rfl dmX4_again ⟨rfl, rfl, Nat.le_of_ble_eq_true rfl, Nat.le_of_ble_eq_true rfl, Nat.zero_le _, Nat.zero_le _⟩ (c_X4_again l D cy cz m M T.log (T.kl.length + (T.gs.take g).sum) hy.2.2.2.2.1 hy.2.2.2.2.2.2.2.2.2.2.1 (by omega) (by omega)) ⟨rfl, rfl, rfl, rfl, by decide, rfl, fun _ => rfl⟩ (Nat.le_of_ble_eq_true rfl) ?_
      intro M3 hp3
      show G x l (rmF 6 216) D 4 0 0 (wM cy cz m M3) [(3, .int (nI (T.w.length - (T.gs.take g).sum))), (2, .int (nI (T.kl.length + (T.gs.take g).sum))), (0, .ref (m 0)), (1, .int (nI kk))] [] 54
      obtain ⟨z1, z2, z3, z6, z7, z8, zj⟩ := hp3
      refine g_aload_n C dX4_stop_54 2 rfl rfl ?_
      refine g_aload_n C dX4_stop_55 2 rfl rfl ?_
      refine g_get C 0 (f := 10) (v := .int (M3 0 3)) (Cn := RX4) (T := TX4) (N := 20) dX4_stop_56 rfl rfl iX4_stop_X4 (by decide) mX4_stop_f105 rfl ?_
      refine g_top (b := nI (T.kl.length + (T.gs.take g).sum)) (z3) ?_
      refine g_put C 0 (f := 11) (v := .int (nI (T.kl.length + (T.gs.take g).sum))) (ty := .int) (Cn := RX4) (T := TX4) (N := 20) (ws' := (wM cy cz m (ps M3 0 4 (nI (T.kl.length + (T.gs.take g).sum))))) dX4_stop_59 rfl rfl iX4_stop_X4 tyX4 tyX4_ok nmX4 (by decide) mX4_stop_f122 rfl rfl (rfl) (rfl) (Nat.le_of_ble_eq_true rfl) (wM_s4 cy cz m M3 (nI (T.kl.length + (T.gs.take g).sum))) ?_
      refine g_aload_n C dX4_stop_62 2 rfl rfl ?_
      refine g_iconst C (v := 0) dX4_stop_63 (by decide) ?_
      refine g_put C 0 (f := 13) (v := .int 0) (ty := .int) (Cn := RX4) (T := TX4) (N := 20) (ws' := (wM cy cz m (ps (ps M3 0 4 (nI (T.kl.length + (T.gs.take g).sum))) 0 5 0))) dX4_stop_64 rfl rfl iX4_stop_X4 tyX4 tyX4_ok nmX4 (by decide) mX4_stop_f115 rfl rfl (rfl) (rfl) (Nat.le_of_ble_eq_true rfl) (wM_s5 cy cz m (ps M3 0 4 (nI (T.kl.length + (T.gs.take g).sum))) 0) ?_
      refine g_aload_n C dX4_stop_67 2 rfl rfl ?_
      refine g_iconst C (v := 0) dX4_stop_68 (by decide) ?_
      refine g_put C 0 (f := 14) (v := .int 0) (ty := .boolean) (Cn := RX4) (T := TX4) (N := 20) (ws' := (wM cy cz m (ps (ps (ps M3 0 4 (nI (T.kl.length + (T.gs.take g).sum))) 0 5 0) 0 6 0))) dX4_stop_69 rfl rfl iX4_stop_X4 tyX4 tyX4_ok nmX4 (by decide) mX4_stop_f108 rfl rfl (by decide) (by decide) (Nat.le_of_ble_eq_true rfl) (wM_s6 cy cz m (ps (ps M3 0 4 (nI (T.kl.length + (T.gs.take g).sum))) 0 5 0) 0) ?_
      refine g_iload_n C dX4_stop_72 0 rfl rfl ?_
      exact ret _ (ps (ps (ps M3 0 4 (nI (T.kl.length + (T.gs.take g).sum))) 0 5 0) 0 6 0) _ _ dX4_stop_73 (by rw [aStop_in hkk, ← hg]; exact ⟨rfl, RY_cut (k := T.kl ++ T.w.take (T.gs.take g).sum) (w := []) hy (n := T.kl.length + (T.gs.take g).sum) (by rw [log_take, List.append_nil]) (by omega) z1 z2 z3 z6 z7 (congrArg nI (by rw [List.length_append, List.length_take]; omega)) rfl (fun i hi => absurd hi (Nat.not_lt_zero _)) rfl ((zj 8 (by decide) (by decide)).trans hy.2.2.2.2.2.2.2.2.2.1) (WT_kept hy.2.2.2.2.2.2.2.2.2.2 _)⟩)
    · skip
      have hg1 : g < T.gs.length := Nat.lt_of_not_le (fun w => c2 (nI_le w (by omega)))
      refine g_iload_n C dX4_stop_22 1 rfl rfl ?_
      refine g_iload_n C dX4_stop_23 3 rfl rfl ?_
      refine g_icmp_ge C (tgt := 42) dX4_stop_24 (by decide) (fun c3 => ?_) (fun c3 => ?_)
      · skip
        have hg : T.gs.take g = T.gs.take kk := by have := (nI_leI (by omega) (by omega)).mp c3; rw [show g = kk by omega]
        refine g_aload_n C dX4_stop_42 2 rfl rfl ?_
        refine g_get C 0 (f := 10) (v := .int (M 0 3)) (Cn := RX4) (T := TX4) (N := 20) dX4_stop_43 rfl rfl iX4_stop_X4 (by decide) mX4_stop_f105 rfl ?_
        refine g_top (b := nI T.log.length) (hy.2.2.1) ?_
        refine g_iload_n C dX4_stop_46 0 rfl rfl ?_
        refine g_isub C dX4_stop_47 ?_
        refine g_top (b := nI (T.w.length - (T.gs.take g).sum)) ((pk_sub (by omega)).trans (congrArg nI (by omega))) ?_
        refine g_istore_n C (lv' := [(3, .int (nI (T.w.length - (T.gs.take g).sum))), (2, .int (nI (T.kl.length + (T.gs.take g).sum))), (0, .ref (m 0)), (1, .int (nI kk))]) dX4_stop_48 rfl (by decide) rfl ?_
        refine g_aload_n C dX4_stop_49 2 rfl rfl ?_
        refine g_iload_n C dX4_stop_50 1 rfl rfl ?_
        refine g_callVV C [0, 1, 2, 3, 4, 5, 6, 7, 8, 9, 10] [] [0, 1, 2, 3, 4, 5, 6, 7, 8, 9, 10] 0 4 (b := m 0) rfl rfl (As := [.int (nI (T.kl.length + (T.gs.take g).sum))]) (rest := []) (wr := ([] : va_W)) (wf := fun M3 => (wM cy cz m M3)) dX4_stop_51 gX4_stop_X4_again rfl dmX4_again ⟨rfl, rfl, Nat.le_of_ble_eq_true rfl, Nat.le_of_ble_eq_true rfl, Nat.zero_le _, Nat.zero_le _⟩ (c_X4_again l D cy cz m M T.log (T.kl.length + (T.gs.take g).sum) hy.2.2.2.2.1 hy.2.2.2.2.2.2.2.2.2.2.1 (by omega) (by omega)) ⟨rfl, rfl, rfl, rfl, by decide, rfl, fun _ => rfl⟩ (Nat.le_of_ble_eq_true rfl) ?_
        intro M3 hp3
        show G x l (rmF 6 216) D 4 0 0 (wM cy cz m M3) [(3, .int (nI (T.w.length - (T.gs.take g).sum))), (2, .int (nI (T.kl.length + (T.gs.take g).sum))), (0, .ref (m 0)), (1, .int (nI kk))] [] 54
        obtain ⟨z1, z2, z3, z6, z7, z8, zj⟩ := hp3
        refine g_aload_n C dX4_stop_54 2 rfl rfl ?_
        refine g_aload_n C dX4_stop_55 2 rfl rfl ?_
        refine g_get C 0 (f := 10) (v := .int (M3 0 3)) (Cn := RX4) (T := TX4) (N := 20) dX4_stop_56 rfl rfl iX4_stop_X4 (by decide) mX4_stop_f105 rfl ?_
        refine g_top (b := nI (T.kl.length + (T.gs.take g).sum)) (z3) ?_
        refine g_put C 0 (f := 11) (v := .int (nI (T.kl.length + (T.gs.take g).sum))) (ty := .int) (Cn := RX4) (T := TX4) (N := 20) (ws' := (wM cy cz m (ps M3 0 4 (nI (T.kl.length + (T.gs.take g).sum))))) dX4_stop_59 rfl rfl iX4_stop_X4 tyX4 tyX4_ok nmX4 (by decide) mX4_stop_f122 rfl rfl (rfl) (rfl) (Nat.le_of_ble_eq_true rfl) (wM_s4 cy cz m M3 (nI (T.kl.length + (T.gs.take g).sum))) ?_
        refine g_aload_n C dX4_stop_62 2 rfl rfl ?_
        refine g_iconst C (v := 0) dX4_stop_63 (by decide) ?_
        refine g_put C 0 (f := 13) (v := .int 0) (ty := .int) (Cn := RX4) (T := TX4) (N := 20) (ws' := (wM cy cz m (ps (ps M3 0 4 (nI (T.kl.length + (T.gs.take g).sum))) 0 5 0))) dX4_stop_64 rfl rfl iX4_stop_X4 tyX4 tyX4_ok nmX4 (by decide) mX4_stop_f115 rfl rfl (rfl) (rfl) (Nat.le_of_ble_eq_true rfl) (wM_s5 cy cz m (ps M3 0 4 (nI (T.kl.length + (T.gs.take g).sum))) 0) ?_
        refine g_aload_n C dX4_stop_67 2 rfl rfl ?_
        refine g_iconst C (v := 0) dX4_stop_68 (by decide) ?_
        refine g_put C 0 (f := 14) (v := .int 0) (ty := .boolean) (Cn := RX4) (T := TX4) (N := 20) (ws' := (wM cy cz m (ps (ps (ps M3 0 4 (nI (T.kl.length + (T.gs.take g).sum))) 0 5 0) 0 6 0))) dX4_stop_69 rfl rfl iX4_stop_X4 tyX4 tyX4_ok nmX4 (by decide) mX4_stop_f108 rfl rfl (by decide) (by decide) (Nat.le_of_ble_eq_true rfl) (wM_s6 cy cz m (ps (ps M3 0 4 (nI (T.kl.length + (T.gs.take g).sum))) 0 5 0) 0) ?_
        refine g_iload_n C dX4_stop_72 0 rfl rfl ?_
        exact ret _ (ps (ps (ps M3 0 4 (nI (T.kl.length + (T.gs.take g).sum))) 0 5 0) 0 6 0) _ _ dX4_stop_73 (by rw [aStop_in hkk, ← hg]; exact ⟨rfl, RY_cut (k := T.kl ++ T.w.take (T.gs.take g).sum) (w := []) hy (n := T.kl.length + (T.gs.take g).sum) (by rw [log_take, List.append_nil]) (by omega) z1 z2 z3 z6 z7 (congrArg nI (by rw [List.length_append, List.length_take]; omega)) rfl (fun i hi => absurd hi (Nat.not_lt_zero _)) rfl ((zj 8 (by decide) (by decide)).trans hy.2.2.2.2.2.2.2.2.2.1) (WT_kept hy.2.2.2.2.2.2.2.2.2.2 _)⟩)
      · skip
        have hg2 : g < kk := Nat.lt_of_not_le (fun w => c3 (nI_le w (by omega)))
        refine g_iload_n C dX4_stop_27 0 rfl rfl ?_
        refine g_aload_n C dX4_stop_28 2 rfl rfl ?_
        refine g_get C 0 (f := 12) (v := .ref (m 8)) (Cn := RX4) (T := TX4) (N := 20) dX4_stop_29 rfl rfl iX4_stop_X4 (by decide) mX4_stop_f32 rfl ?_
        refine g_iload_n C dX4_stop_32 1 rfl rfl ?_
        refine g_iald C 8 0 (f := M 8) (N := 64) g dX4_stop_33 rfl rfl (by decide) (rfl) (by omega) ?_
        refine g_top (b := nI (T.gs.getD g 0)) (hy.2.2.2.2.2.2.1 g hg1) ?_
        refine g_iadd C dX4_stop_34 ?_
        refine g_top (b := nI (T.kl.length + (T.gs.take (g + 1)).sum)) ((nI_add _ _).trans (congrArg nI (by rw [sum_take_getD hg1]; omega))) ?_
        refine g_istore_n C (lv' := [(2, .int (nI (T.kl.length + (T.gs.take (g + 1)).sum))), (3, .int (nI g)), (0, .ref (m 0)), (1, .int (nI kk))]) dX4_stop_35 rfl (by decide) rfl ?_
        refine g_iinc C (q := 1) (v := nI (g + 1)) (lv' := [(3, .int (nI (g + 1))), (2, .int (nI (T.kl.length + (T.gs.take (g + 1)).sum))), (0, .ref (m 0)), (1, .int (nI kk))]) dX4_stop_36 rfl (nI_1 g) (by decide) rfl ?_
        refine g_goto C (tgt := 14) dX4_stop_39 (by decide) ?_
        refine g_lv (lv' := [(2, .int (nI (T.kl.length + (T.gs.take (g + 1)).sum))), (3, .int (nI (g + 1))), (0, .ref (m 0)), (1, .int (nI kk))]) [1, 0, 2, 3] rfl ?_
        exact ih (g + 1) ⟨by omega, by omega⟩ (by show T.gs.length - (g + 1) < T.gs.length - g; omega)
  · skip
    refine g_ldc C (v := (-2000000001)) mX4_stop_k126 dX4_stop_4 ?_
    exact ret _ M _ _ dX4_stop_6 (by rw [aStop_bad c1]; exact ⟨rfl, hy⟩)
