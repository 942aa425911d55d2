/-! the law: reading the script, the lengths of the log, the world of both -/
def gScr (x : GX) (bb L : Nat) (xs : Nat → Int32) : Prop := match x with
  | (_, _, s, _, _, _, _, _, A, _) => va_X bb L xs s s.heap ∧ bb < s.heap.size ∧ ¬ A bb
section GS
variable {x : GX} {l : Launch} {R : Room} {D : va_G} {tys : List (ClassId × FieldType)} {cc : ByteArray} {nL k n : Nat} {Ts : List Cond} {own : String} {ws : va_W} {lv : List (Nat × Value)} {st : List Value} {pc : Nat} {bb L : Nat} {xs : Nat → Int32}
theorem g_slen (C : Cx x D tys cc nL Ts own) (S : gScr x bb L xs) (hdg : decode cc pc = .ok (.arraylength, 1)) (kk : G x l R D nL k n ws lv (.int (nI L) :: st) (pc + 1)) : G x l R D nL k n ws lv (.ref bb :: st) pc := by
  obtain ⟨p, e, s, m, args, below, meth, c, A, Q⟩ := x
  obtain ⟨hx, hb, hml, hown, hts, hK, hA, hNw⟩ := C
  obtain ⟨hX, hbl, hbA⟩ := S
  intro H locs ls hP hD hS hl
  exact va_slen hx hb hX hbl hbA hS hdg (kk H locs ls hP hD hS hl)
theorem g_sld (C : Cx x D tys cc nL Ts own) (S : gScr x bb L xs) {i : Int32} (t : Nat) (hi : i = nI t) (ht : t < L) (hL : L < 2 ^ 31) (hdg : decode cc pc = .ok (.iaload, 1)) (kk : G x l R D nL k n ws lv (.int (xs t) :: st) (pc + 1)) : G x l R D nL k n ws lv (.int i :: .ref bb :: st) pc := by
  obtain ⟨p, e, s, m, args, below, meth, c, A, Q⟩ := x
  obtain ⟨hx, hb, hml, hown, hts, hK, hA, hNw⟩ := C
  obtain ⟨hX, hbl, hbA⟩ := S
  intro H locs ls hP hD hS hl
  subst hi
  refine va_sld hx hb hX hbl hbA hS (vp_in_nI ht hL) hdg ?_
  rw [nI_clamp (by omega)]
  exact kk H locs ls hP hD hS hl
theorem g_gets (C : Cx x D tys cc nL Ts own) (S : gScr x bb L xs) (t k0 : Nat) {i : Int} (hv : Int32.ofInt i = nI k0) (h0 : lv[0]? = some (3, .int (nI t))) (h3 : lv[3]? = some (0, .ref bb)) (ht : t + k0 < L) (hL : L ≤ 2048) (d0 : decode cc pc = .ok (.aload_n 0, 1)) (d1 : decode cc (pc + 1) = .ok (.iload_n 3, 1)) (d2 : decode cc (pc + 2) = .ok (.iconst i, 1)) (d3 : decode cc (pc + 3) = .ok (.iadd, 1)) (d4 : decode cc (pc + 4) = .ok (.iaload, 1)) (kk : G x l R D nL k n ws lv (.int (xs (t + k0)) :: st) (pc + 5)) : G x l R D nL k n ws lv st pc := by
  refine g_aload_n C d0 3 rfl h3 ?_
  refine g_iload_n C d1 0 rfl h0 ?_
  refine g_iconst C (v := nI k0) d2 hv ?_
  refine g_iadd C d3 ?_
  exact g_sld C S (t + k0) (nI_add t k0) ht (by omega) d4 kk
end GS
theorem law_le {L t : Nat} (hL : L ≤ 2048) (ht : t ≤ 2048) (h : ¬ nI L - 4 < nI t) : t + 4 ≤ L := by
  rcases Nat.lt_or_ge L 4 with h4 | h4
  · refine absurd (Int32.lt_of_lt_of_le ?_ (nI_pos' (n := t) (by omega))) h
    rcases (show L = 0 ∨ L = 1 ∨ L = 2 ∨ L = 3 by omega) with rfl | rfl | rfl | rfl <;> decide
  · obtain ⟨k, rfl⟩ : ∃ k, L = k + 4 := ⟨L - 4, by omega⟩
    have e : nI (k + 4) - 4 = nI k := by
      rw [← nI_add]
      exact Int32.add_sub_cancel (nI k) (nI 4)
    rw [e] at h
    rcases Nat.lt_or_ge k t with h1 | h1
    · exact absurd (nI_lt h1 (by omega)) h
    · omega
theorem sw_15 {j : Nat} (h : j < 2 ^ 4) : j = 0 ∨ j = 1 ∨ j = 2 ∨ j = 3 ∨ j = 4 ∨ j = 5 ∨ j = 6 ∨ j = 7 ∨ j = 8 ∨ j = 9 ∨ j = 10 ∨ j = 11 ∨ j = 12 ∨ j = 13 ∨ j = 14 ∨ j = 15 := by omega
theorem len_note (T : TS) (e : LE) : (T.note e).log.length = T.log.length + 1 := by
  show (T.kl ++ (T.w ++ [e])).length = (T.kl ++ T.w).length + 1
  simp only [List.length_append, List.length_singleton]
  omega
theorem len_put (T : TS) (k v : Int32) : (aPut T k v).2.log.length ≤ T.log.length + 1 := by
  unfold aPut
  split
  · exact Nat.le_succ _
  · split
    · exact Nat.le_succ _
    · split
      · exact Nat.le_succ _
      · exact Nat.le_of_eq (len_note T _)
theorem len_rem (T : TS) (k : Int32) : (aRem T k).2.log.length ≤ T.log.length + 1 := by
  unfold aRem
  split
  · exact Nat.le_succ _
  · split
    · exact Nat.le_succ _
    · exact Nat.le_of_eq (len_note T _)
theorem len_get (T : TS) (k : Int32) : (aGet T k).2.log.length ≤ T.log.length + 1 := Nat.le_succ _
theorem len_begin (T : TS) : (aBegin T).2.log.length ≤ T.log.length + 1 := by
  unfold aBegin
  split <;> exact Nat.le_succ _
theorem len_end (T : TS) : (aEnd T).2.log.length ≤ T.log.length + 1 := by
  unfold aEnd
  split <;> exact Nat.le_succ _
theorem len_undo (T : TS) : (aUndo T).2.log.length ≤ T.log.length + 1 := by
  unfold aUndo
  split
  · exact Nat.le_succ _
  · show (T.kl ++ T.w.take T.gs.sum).length ≤ (T.kl ++ T.w).length + 1
    simp only [List.length_append, List.length_take]
    omega
theorem len_keep (T : TS) : (aKeep T).2.log.length ≤ T.log.length + 1 := by
  unfold aKeep
  split
  · exact Nat.le_succ _
  · show ((T.kl ++ T.w) ++ []).length ≤ (T.kl ++ T.w).length + 1
    rw [List.append_nil]
    exact Nat.le_succ _
theorem len_stop (T : TS) (n : Int32) : (aStop T n).2.log.length ≤ T.log.length + 1 := by
  unfold aStop
  split
  · exact Nat.le_succ _
  · rename_i q _
    show ((T.kl ++ T.w.take (T.gs.take q).sum) ++ []).length ≤ (T.kl ++ T.w).length + 1
    simp only [List.length_append, List.length_take, List.length_nil]
    omega
/-- the class's cells -/
abbrev W5d (cy : ClassId) (b g h j z : Nat → Nat) (u : M5) : va_W := wB b (g 0) (h 0) (j 0) u.1 ++ (wG cy g (z 0) u.2.1 ++ (wG cy h (z 0) u.2.2.1 ++ (wJ cy j u.2.2.2.1 ++ wZ cy z u.2.2.2.2)))
/-- both -/
abbrev LWd (cy cz : ClassId) (b g h j z m : Nat → Nat) (u : M5) (M : Mem) : va_W := W5d cy b g h j z u ++ wM cy cz m M
abbrev lvL (bb : Nat) (b m : Nat → Nat) (t : Nat) : List (Nat × Value) := [(3, .int (nI t)), (2, .ref (m 0)), (1, .ref (b 0)), (0, .ref bb)]
