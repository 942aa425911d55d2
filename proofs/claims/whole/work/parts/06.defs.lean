/-! WORLDS AND THE STORE'S PICTURE: a memory is a row of arrays (number 0: the int fields) -/
abbrev vNONE : Int32 := -2000000005
abbrev Mem : Type := Nat → Nat → Int32
def ps (P : Mem) (k j : Nat) (v : Int32) : Mem := fun a => if a = k then upd (P k) j v else P a
abbrev tyL (cy cz : ClassId) : List (ClassId × FieldType) := [(cy, .int), (cz, .boolean)]
/-- Aside: keys, values; size -/
abbrev wZ (cy : ClassId) (z : Nat → Nat) (Z : Mem) : va_W := [(z 0, .inr (0, [.ref (z 1), .ref (z 2), .int (Z 0 0)])), (z 1, .inl (cy, 264, .inl (Z 1))), (z 2, .inl (cy, 264, .inl (Z 2)))]
/-- Journal: kinds, keys, values, groupEnds; writes, groups, open, openFrom -/
abbrev wJ (cy : ClassId) (j : Nat → Nat) (J : Mem) : va_W := [(j 0, .inr (1, [.ref (j 1), .ref (j 2), .ref (j 3), .ref (j 4), .int (J 0 0), .int (J 0 1), .int (J 0 2), .int (J 0 3)])), (j 1, .inl (cy, 64, .inl (J 1))), (j 2, .inl (cy, 64, .inl (J 2))), (j 3, .inl (cy, 64, .inl (J 3))), (j 4, .inl (cy, 64, .inl (J 4)))]
/-- Pages: keys, values, used, behind, ahead, holder, last; level, split, entries -/
abbrev wG (cy : ClassId) (g : Nat → Nat) (z0 : Nat) (P : Mem) : va_W := [(g 0, .inr (2, [.ref (g 1), .ref (g 2), .ref (g 3), .ref (g 4), .ref (g 5), .ref (g 6), .ref (g 7), .ref z0, .int (P 0 0), .int (P 0 1), .int (P 0 2)])), (g 1, .inl (cy, 512, .inl (P 1))), (g 2, .inl (cy, 512, .inl (P 2))), (g 3, .inl (cy, 128, .inl (P 3))), (g 4, .inl (cy, 128, .inl (P 4))), (g 5, .inl (cy, 128, .inl (P 5))), (g 6, .inl (cy, 128, .inl (P 6))), (g 7, .inl (cy, 64, .inl (P 7)))]
/-- PageBuckets: current, kept, journal; pagesRead, writesThatStand -/
abbrev wB (b : Nat → Nat) (g0 h0 j0 : Nat) (B : Mem) : va_W := [(b 0, .inr (3, [.ref g0, .ref h0, .ref j0, .int (B 0 0), .int (B 0 1)]))]
/-- the reference: keys, values, sizes, links, isFree, writeKey, writeValue, groups, heldKey, heldValue; level, split, entries, writes, keptWrites, groupCount, isOpen, openWrites, read, held -/
abbrev wM (cy cz : ClassId) (m : Nat → Nat) (M : Mem) : va_W := [(m 0, .inr (4, [.ref (m 1), .ref (m 2), .ref (m 3), .ref (m 4), .ref (m 5), .int (M 0 0), .int (M 0 1), .int (M 0 2), .ref (m 6), .ref (m 7), .int (M 0 3), .int (M 0 4), .ref (m 8), .int (M 0 5), .int (M 0 6), .int (M 0 7), .int (M 0 8), .ref (m 9), .ref (m 10), .int (M 0 9)])), (m 1, .inl (cy, 512, .inl (M 1))), (m 2, .inl (cy, 512, .inl (M 2))), (m 3, .inl (cy, 128, .inl (M 3))), (m 4, .inl (cy, 128, .inl (M 4))), (m 5, .inl (cz, 128, .inl (M 5))), (m 6, .inl (cy, 4200, .inl (M 6))), (m 7, .inl (cy, 4200, .inl (M 7))), (m 8, .inl (cy, 64, .inl (M 8))), (m 9, .inl (cy, 512, .inl (M 9))), (m 10, .inl (cy, 512, .inl (M 10)))]
/-- an index test, as the class writes it -/
def inI (N : Int32) (i : Int32) : Int32 := if i < 0 then 0 else if N ≤ i then 0 else 1
theorem inI_nI {N p : Nat} (hp : p < N) (hN : N < 2 ^ 31) : inI (nI N) (nI p) = 1 := by
  unfold inI
  rw [if_neg (nI_pos (by omega)), if_neg (nI_ge hp hN)]
theorem inI_NONE (N : Int32) : inI N vNONE = 0 := by
  unfold inI
  rw [if_pos (by decide)]
theorem inI_nat {N : Nat} {i : Int32} (hN : N < 2 ^ 31) (h : ¬ inI (nI N) i = 0) : ∃ j : Nat, j < N ∧ i = nI j := by
  unfold inI at h
  by_cases h1 : i < 0
  · rw [if_pos h1] at h; exact absurd rfl h
  · rw [if_neg h1] at h
    by_cases h2 : nI N ≤ i
    · rw [if_pos h2] at h; exact absurd rfl h
    · exact vp_in_of (n := N) (fun q => by
        rcases q with q | q
        · exact h1 q
        · obtain ⟨j, hj, rfl⟩ := nI_of h1
          rw [nI_clamp hj] at q
          exact h2 (nI_le q hj)) hN
/-- a number of a switch -/
theorem sw_of {a : Int32} {n : Nat} (h : 0 ≤ a.toInt ∧ a.toInt ≤ (n : Int)) (hn : n + 1 < 2 ^ 31) : ∃ j : Nat, j ≤ n ∧ a = nI j := by
  obtain ⟨h1, h2⟩ := h
  obtain ⟨j, hj, e⟩ := vp_in_of (x := a) (n := n + 1) (vp_in_iff.mpr ⟨h1, by omega⟩) hn
  exact ⟨j, by omega, e⟩
theorem sw_2 {j : Nat} (h : j ≤ 2) : j = 0 ∨ j = 1 ∨ j = 2 := by omega
theorem sw_10 {j : Nat} (h : j ≤ 10) : j = 0 ∨ j = 1 ∨ j = 2 ∨ j = 3 ∨ j = 4 ∨ j = 5 ∨ j = 6 ∨ j = 7 ∨ j = 8 ∨ j = 9 ∨ j = 10 := by omega
/-! one cell of a world changes: the memory changes at one place -/
theorem set_l {w1 w1' w2 : va_W} {k : Nat} {e : Nat × va_E} (hk : k < w1.length) (h : w1.set k e = w1') : (w1 ++ w2).set k e = w1' ++ w2 := by
  rw [← h, List.set_append_left _ _ hk]
theorem set_r {w1 w2 w2' : va_W} {k j : Nat} {e : Nat × va_E} (hk : k = w1.length + j) (h : w2.set j e = w2') : (w1 ++ w2).set k e = w1 ++ w2' := by
  rw [← h, hk, List.set_append_right _ _ (Nat.le_add_right _ _), Nat.add_sub_cancel_left]
def pa (P : Mem) (k : Nat) (f : Nat → Int32) : Mem := fun a => if a = k then f else P a
theorem wZ_s0 (cy : ClassId) (z : Nat → Nat) (P : Mem) (v : Int32) : (wZ cy z P).set 0 (z 0, .inr (0, [.ref (z 1), .ref (z 2), .int (P 0 0)].set 2 (.int v))) = wZ cy z (ps P 0 0 v) := rfl
theorem wZ_a1 (cy : ClassId) (z : Nat → Nat) (P : Mem) (j : Nat) (v : Int32) : (wZ cy z P).set 1 (z 1, .inl (cy, 264, .inl (upd (P 1) j v))) = wZ cy z (ps P 1 j v) := rfl
theorem wZ_a2 (cy : ClassId) (z : Nat → Nat) (P : Mem) (j : Nat) (v : Int32) : (wZ cy z P).set 2 (z 2, .inl (cy, 264, .inl (upd (P 2) j v))) = wZ cy z (ps P 2 j v) := rfl
theorem wJ_s0 (cy : ClassId) (j : Nat → Nat) (P : Mem) (v : Int32) : (wJ cy j P).set 0 (j 0, .inr (1, [.ref (j 1), .ref (j 2), .ref (j 3), .ref (j 4), .int (P 0 0), .int (P 0 1), .int (P 0 2), .int (P 0 3)].set 4 (.int v))) = wJ cy j (ps P 0 0 v) := rfl
theorem wJ_s1 (cy : ClassId) (j : Nat → Nat) (P : Mem) (v : Int32) : (wJ cy j P).set 0 (j 0, .inr (1, [.ref (j 1), .ref (j 2), .ref (j 3), .ref (j 4), .int (P 0 0), .int (P 0 1), .int (P 0 2), .int (P 0 3)].set 5 (.int v))) = wJ cy j (ps P 0 1 v) := rfl
theorem wJ_s2 (cy : ClassId) (j : Nat → Nat) (P : Mem) (v : Int32) : (wJ cy j P).set 0 (j 0, .inr (1, [.ref (j 1), .ref (j 2), .ref (j 3), .ref (j 4), .int (P 0 0), .int (P 0 1), .int (P 0 2), .int (P 0 3)].set 6 (.int v))) = wJ cy j (ps P 0 2 v) := rfl
theorem wJ_s3 (cy : ClassId) (j : Nat → Nat) (P : Mem) (v : Int32) : (wJ cy j P).set 0 (j 0, .inr (1, [.ref (j 1), .ref (j 2), .ref (j 3), .ref (j 4), .int (P 0 0), .int (P 0 1), .int (P 0 2), .int (P 0 3)].set 7 (.int v))) = wJ cy j (ps P 0 3 v) := rfl
theorem wJ_a1 (cy : ClassId) (j9 : Nat → Nat) (P : Mem) (j : Nat) (v : Int32) : (wJ cy j9 P).set 1 (j9 1, .inl (cy, 64, .inl (upd (P 1) j v))) = wJ cy j9 (ps P 1 j v) := rfl
theorem wJ_a2 (cy : ClassId) (j9 : Nat → Nat) (P : Mem) (j : Nat) (v : Int32) : (wJ cy j9 P).set 2 (j9 2, .inl (cy, 64, .inl (upd (P 2) j v))) = wJ cy j9 (ps P 2 j v) := rfl
theorem wJ_a3 (cy : ClassId) (j9 : Nat → Nat) (P : Mem) (j : Nat) (v : Int32) : (wJ cy j9 P).set 3 (j9 3, .inl (cy, 64, .inl (upd (P 3) j v))) = wJ cy j9 (ps P 3 j v) := rfl
theorem wJ_a4 (cy : ClassId) (j9 : Nat → Nat) (P : Mem) (j : Nat) (v : Int32) : (wJ cy j9 P).set 4 (j9 4, .inl (cy, 64, .inl (upd (P 4) j v))) = wJ cy j9 (ps P 4 j v) := rfl
theorem wG_s0 (cy : ClassId) (g : Nat → Nat) (z0 : Nat) (P : Mem) (v : Int32) : (wG cy g z0 P).set 0 (g 0, .inr (2, [.ref (g 1), .ref (g 2), .ref (g 3), .ref (g 4), .ref (g 5), .ref (g 6), .ref (g 7), .ref z0, .int (P 0 0), .int (P 0 1), .int (P 0 2)].set 8 (.int v))) = wG cy g z0 (ps P 0 0 v) := rfl
theorem wG_s1 (cy : ClassId) (g : Nat → Nat) (z0 : Nat) (P : Mem) (v : Int32) : (wG cy g z0 P).set 0 (g 0, .inr (2, [.ref (g 1), .ref (g 2), .ref (g 3), .ref (g 4), .ref (g 5), .ref (g 6), .ref (g 7), .ref z0, .int (P 0 0), .int (P 0 1), .int (P 0 2)].set 9 (.int v))) = wG cy g z0 (ps P 0 1 v) := rfl
theorem wG_s2 (cy : ClassId) (g : Nat → Nat) (z0 : Nat) (P : Mem) (v : Int32) : (wG cy g z0 P).set 0 (g 0, .inr (2, [.ref (g 1), .ref (g 2), .ref (g 3), .ref (g 4), .ref (g 5), .ref (g 6), .ref (g 7), .ref z0, .int (P 0 0), .int (P 0 1), .int (P 0 2)].set 10 (.int v))) = wG cy g z0 (ps P 0 2 v) := rfl
theorem wG_a1 (cy : ClassId) (g : Nat → Nat) (z0 : Nat) (P : Mem) (j : Nat) (v : Int32) : (wG cy g z0 P).set 1 (g 1, .inl (cy, 512, .inl (upd (P 1) j v))) = wG cy g z0 (ps P 1 j v) := rfl
theorem wG_c1 (cy : ClassId) (g : Nat → Nat) (z0 : Nat) (P : Mem) (f : Nat → Int32) : (wG cy g z0 P).set 1 (g 1, .inl (cy, 512, .inl f)) = wG cy g z0 (pa P 1 f) := rfl
theorem wG_a2 (cy : ClassId) (g : Nat → Nat) (z0 : Nat) (P : Mem) (j : Nat) (v : Int32) : (wG cy g z0 P).set 2 (g 2, .inl (cy, 512, .inl (upd (P 2) j v))) = wG cy g z0 (ps P 2 j v) := rfl
theorem wG_c2 (cy : ClassId) (g : Nat → Nat) (z0 : Nat) (P : Mem) (f : Nat → Int32) : (wG cy g z0 P).set 2 (g 2, .inl (cy, 512, .inl f)) = wG cy g z0 (pa P 2 f) := rfl
theorem wG_a3 (cy : ClassId) (g : Nat → Nat) (z0 : Nat) (P : Mem) (j : Nat) (v : Int32) : (wG cy g z0 P).set 3 (g 3, .inl (cy, 128, .inl (upd (P 3) j v))) = wG cy g z0 (ps P 3 j v) := rfl
theorem wG_c3 (cy : ClassId) (g : Nat → Nat) (z0 : Nat) (P : Mem) (f : Nat → Int32) : (wG cy g z0 P).set 3 (g 3, .inl (cy, 128, .inl f)) = wG cy g z0 (pa P 3 f) := rfl
theorem wG_a4 (cy : ClassId) (g : Nat → Nat) (z0 : Nat) (P : Mem) (j : Nat) (v : Int32) : (wG cy g z0 P).set 4 (g 4, .inl (cy, 128, .inl (upd (P 4) j v))) = wG cy g z0 (ps P 4 j v) := rfl
theorem wG_c4 (cy : ClassId) (g : Nat → Nat) (z0 : Nat) (P : Mem) (f : Nat → Int32) : (wG cy g z0 P).set 4 (g 4, .inl (cy, 128, .inl f)) = wG cy g z0 (pa P 4 f) := rfl
theorem wG_a5 (cy : ClassId) (g : Nat → Nat) (z0 : Nat) (P : Mem) (j : Nat) (v : Int32) : (wG cy g z0 P).set 5 (g 5, .inl (cy, 128, .inl (upd (P 5) j v))) = wG cy g z0 (ps P 5 j v) := rfl
theorem wG_c5 (cy : ClassId) (g : Nat → Nat) (z0 : Nat) (P : Mem) (f : Nat → Int32) : (wG cy g z0 P).set 5 (g 5, .inl (cy, 128, .inl f)) = wG cy g z0 (pa P 5 f) := rfl
theorem wG_a6 (cy : ClassId) (g : Nat → Nat) (z0 : Nat) (P : Mem) (j : Nat) (v : Int32) : (wG cy g z0 P).set 6 (g 6, .inl (cy, 128, .inl (upd (P 6) j v))) = wG cy g z0 (ps P 6 j v) := rfl
theorem wG_c6 (cy : ClassId) (g : Nat → Nat) (z0 : Nat) (P : Mem) (f : Nat → Int32) : (wG cy g z0 P).set 6 (g 6, .inl (cy, 128, .inl f)) = wG cy g z0 (pa P 6 f) := rfl
theorem wG_a7 (cy : ClassId) (g : Nat → Nat) (z0 : Nat) (P : Mem) (j : Nat) (v : Int32) : (wG cy g z0 P).set 7 (g 7, .inl (cy, 64, .inl (upd (P 7) j v))) = wG cy g z0 (ps P 7 j v) := rfl
theorem wG_c7 (cy : ClassId) (g : Nat → Nat) (z0 : Nat) (P : Mem) (f : Nat → Int32) : (wG cy g z0 P).set 7 (g 7, .inl (cy, 64, .inl f)) = wG cy g z0 (pa P 7 f) := rfl
theorem wB_s0 (b : Nat → Nat) (g0 h0 j0 : Nat) (P : Mem) (v : Int32) : (wB b g0 h0 j0 P).set 0 (b 0, .inr (3, [.ref g0, .ref h0, .ref j0, .int (P 0 0), .int (P 0 1)].set 3 (.int v))) = wB b g0 h0 j0 (ps P 0 0 v) := rfl
theorem wB_s1 (b : Nat → Nat) (g0 h0 j0 : Nat) (P : Mem) (v : Int32) : (wB b g0 h0 j0 P).set 0 (b 0, .inr (3, [.ref g0, .ref h0, .ref j0, .int (P 0 0), .int (P 0 1)].set 4 (.int v))) = wB b g0 h0 j0 (ps P 0 1 v) := rfl
theorem wM_s0 (cy cz : ClassId) (m : Nat → Nat) (P : Mem) (v : Int32) : (wM cy cz m P).set 0 (m 0, .inr (4, [.ref (m 1), .ref (m 2), .ref (m 3), .ref (m 4), .ref (m 5), .int (P 0 0), .int (P 0 1), .int (P 0 2), .ref (m 6), .ref (m 7), .int (P 0 3), .int (P 0 4), .ref (m 8), .int (P 0 5), .int (P 0 6), .int (P 0 7), .int (P 0 8), .ref (m 9), .ref (m 10), .int (P 0 9)].set 5 (.int v))) = wM cy cz m (ps P 0 0 v) := rfl
theorem wM_s1 (cy cz : ClassId) (m : Nat → Nat) (P : Mem) (v : Int32) : (wM cy cz m P).set 0 (m 0, .inr (4, [.ref (m 1), .ref (m 2), .ref (m 3), .ref (m 4), .ref (m 5), .int (P 0 0), .int (P 0 1), .int (P 0 2), .ref (m 6), .ref (m 7), .int (P 0 3), .int (P 0 4), .ref (m 8), .int (P 0 5), .int (P 0 6), .int (P 0 7), .int (P 0 8), .ref (m 9), .ref (m 10), .int (P 0 9)].set 6 (.int v))) = wM cy cz m (ps P 0 1 v) := rfl
theorem wM_s2 (cy cz : ClassId) (m : Nat → Nat) (P : Mem) (v : Int32) : (wM cy cz m P).set 0 (m 0, .inr (4, [.ref (m 1), .ref (m 2), .ref (m 3), .ref (m 4), .ref (m 5), .int (P 0 0), .int (P 0 1), .int (P 0 2), .ref (m 6), .ref (m 7), .int (P 0 3), .int (P 0 4), .ref (m 8), .int (P 0 5), .int (P 0 6), .int (P 0 7), .int (P 0 8), .ref (m 9), .ref (m 10), .int (P 0 9)].set 7 (.int v))) = wM cy cz m (ps P 0 2 v) := rfl
theorem wM_s3 (cy cz : ClassId) (m : Nat → Nat) (P : Mem) (v : Int32) : (wM cy cz m P).set 0 (m 0, .inr (4, [.ref (m 1), .ref (m 2), .ref (m 3), .ref (m 4), .ref (m 5), .int (P 0 0), .int (P 0 1), .int (P 0 2), .ref (m 6), .ref (m 7), .int (P 0 3), .int (P 0 4), .ref (m 8), .int (P 0 5), .int (P 0 6), .int (P 0 7), .int (P 0 8), .ref (m 9), .ref (m 10), .int (P 0 9)].set 10 (.int v))) = wM cy cz m (ps P 0 3 v) := rfl
theorem wM_s4 (cy cz : ClassId) (m : Nat → Nat) (P : Mem) (v : Int32) : (wM cy cz m P).set 0 (m 0, .inr (4, [.ref (m 1), .ref (m 2), .ref (m 3), .ref (m 4), .ref (m 5), .int (P 0 0), .int (P 0 1), .int (P 0 2), .ref (m 6), .ref (m 7), .int (P 0 3), .int (P 0 4), .ref (m 8), .int (P 0 5), .int (P 0 6), .int (P 0 7), .int (P 0 8), .ref (m 9), .ref (m 10), .int (P 0 9)].set 11 (.int v))) = wM cy cz m (ps P 0 4 v) := rfl
theorem wM_s5 (cy cz : ClassId) (m : Nat → Nat) (P : Mem) (v : Int32) : (wM cy cz m P).set 0 (m 0, .inr (4, [.ref (m 1), .ref (m 2), .ref (m 3), .ref (m 4), .ref (m 5), .int (P 0 0), .int (P 0 1), .int (P 0 2), .ref (m 6), .ref (m 7), .int (P 0 3), .int (P 0 4), .ref (m 8), .int (P 0 5), .int (P 0 6), .int (P 0 7), .int (P 0 8), .ref (m 9), .ref (m 10), .int (P 0 9)].set 13 (.int v))) = wM cy cz m (ps P 0 5 v) := rfl
theorem wM_s6 (cy cz : ClassId) (m : Nat → Nat) (P : Mem) (v : Int32) : (wM cy cz m P).set 0 (m 0, .inr (4, [.ref (m 1), .ref (m 2), .ref (m 3), .ref (m 4), .ref (m 5), .int (P 0 0), .int (P 0 1), .int (P 0 2), .ref (m 6), .ref (m 7), .int (P 0 3), .int (P 0 4), .ref (m 8), .int (P 0 5), .int (P 0 6), .int (P 0 7), .int (P 0 8), .ref (m 9), .ref (m 10), .int (P 0 9)].set 14 (.int v))) = wM cy cz m (ps P 0 6 v) := rfl
theorem wM_s7 (cy cz : ClassId) (m : Nat → Nat) (P : Mem) (v : Int32) : (wM cy cz m P).set 0 (m 0, .inr (4, [.ref (m 1), .ref (m 2), .ref (m 3), .ref (m 4), .ref (m 5), .int (P 0 0), .int (P 0 1), .int (P 0 2), .ref (m 6), .ref (m 7), .int (P 0 3), .int (P 0 4), .ref (m 8), .int (P 0 5), .int (P 0 6), .int (P 0 7), .int (P 0 8), .ref (m 9), .ref (m 10), .int (P 0 9)].set 15 (.int v))) = wM cy cz m (ps P 0 7 v) := rfl
theorem wM_s8 (cy cz : ClassId) (m : Nat → Nat) (P : Mem) (v : Int32) : (wM cy cz m P).set 0 (m 0, .inr (4, [.ref (m 1), .ref (m 2), .ref (m 3), .ref (m 4), .ref (m 5), .int (P 0 0), .int (P 0 1), .int (P 0 2), .ref (m 6), .ref (m 7), .int (P 0 3), .int (P 0 4), .ref (m 8), .int (P 0 5), .int (P 0 6), .int (P 0 7), .int (P 0 8), .ref (m 9), .ref (m 10), .int (P 0 9)].set 16 (.int v))) = wM cy cz m (ps P 0 8 v) := rfl
theorem wM_s9 (cy cz : ClassId) (m : Nat → Nat) (P : Mem) (v : Int32) : (wM cy cz m P).set 0 (m 0, .inr (4, [.ref (m 1), .ref (m 2), .ref (m 3), .ref (m 4), .ref (m 5), .int (P 0 0), .int (P 0 1), .int (P 0 2), .ref (m 6), .ref (m 7), .int (P 0 3), .int (P 0 4), .ref (m 8), .int (P 0 5), .int (P 0 6), .int (P 0 7), .int (P 0 8), .ref (m 9), .ref (m 10), .int (P 0 9)].set 19 (.int v))) = wM cy cz m (ps P 0 9 v) := rfl
theorem wM_a1 (cy cz : ClassId) (m : Nat → Nat) (P : Mem) (j : Nat) (v : Int32) : (wM cy cz m P).set 1 (m 1, .inl (cy, 512, .inl (upd (P 1) j v))) = wM cy cz m (ps P 1 j v) := rfl
theorem wM_a2 (cy cz : ClassId) (m : Nat → Nat) (P : Mem) (j : Nat) (v : Int32) : (wM cy cz m P).set 2 (m 2, .inl (cy, 512, .inl (upd (P 2) j v))) = wM cy cz m (ps P 2 j v) := rfl
theorem wM_a3 (cy cz : ClassId) (m : Nat → Nat) (P : Mem) (j : Nat) (v : Int32) : (wM cy cz m P).set 3 (m 3, .inl (cy, 128, .inl (upd (P 3) j v))) = wM cy cz m (ps P 3 j v) := rfl
theorem wM_a4 (cy cz : ClassId) (m : Nat → Nat) (P : Mem) (j : Nat) (v : Int32) : (wM cy cz m P).set 4 (m 4, .inl (cy, 128, .inl (upd (P 4) j v))) = wM cy cz m (ps P 4 j v) := rfl
theorem wM_a5 (cy cz : ClassId) (m : Nat → Nat) (P : Mem) (j : Nat) (v : Int32) : (wM cy cz m P).set 5 (m 5, .inl (cz, 128, .inl (upd (P 5) j v))) = wM cy cz m (ps P 5 j v) := rfl
theorem wM_a6 (cy cz : ClassId) (m : Nat → Nat) (P : Mem) (j : Nat) (v : Int32) : (wM cy cz m P).set 6 (m 6, .inl (cy, 4200, .inl (upd (P 6) j v))) = wM cy cz m (ps P 6 j v) := rfl
theorem wM_a7 (cy cz : ClassId) (m : Nat → Nat) (P : Mem) (j : Nat) (v : Int32) : (wM cy cz m P).set 7 (m 7, .inl (cy, 4200, .inl (upd (P 7) j v))) = wM cy cz m (ps P 7 j v) := rfl
theorem wM_a8 (cy cz : ClassId) (m : Nat → Nat) (P : Mem) (j : Nat) (v : Int32) : (wM cy cz m P).set 8 (m 8, .inl (cy, 64, .inl (upd (P 8) j v))) = wM cy cz m (ps P 8 j v) := rfl
theorem wM_a9 (cy cz : ClassId) (m : Nat → Nat) (P : Mem) (j : Nat) (v : Int32) : (wM cy cz m P).set 9 (m 9, .inl (cy, 512, .inl (upd (P 9) j v))) = wM cy cz m (ps P 9 j v) := rfl
theorem wM_a10 (cy cz : ClassId) (m : Nat → Nat) (P : Mem) (j : Nat) (v : Int32) : (wM cy cz m P).set 10 (m 10, .inl (cy, 512, .inl (upd (P 10) j v))) = wM cy cz m (ps P 10 j v) := rfl
