/-! WORLDS AND THE STORE'S PICTURE: a memory is a row of arrays (number 0: the int fields) -/
abbrev vNONE : Int32 := -2000000005
abbrev Mem : Type := Nat → Nat → Int32
def ps (P : Mem) (k j : Nat) (v : Int32) : Mem := fun a => if a = k then upd (P k) j v else P a
abbrev tyL (cy cz : ClassId) : List (ClassId × FieldType) := [(cy, .int), (cz, .boolean)]
/-- Aside: keys, values; size -/
abbrev wZ (cy : ClassId) (z : Nat → Nat) (Z : Mem) : va_W := [(z 0, .inr (0, [.ref (z 1), .ref (z 2), .int (Z 0 0)])), (z 1, .inl (cy, 264, .inl (Z 1))), (z 2, .inl (cy, 264, .inl (Z 2)))]
/-- Journal: kinds, keys, values, groupEnds; writes, groups, open, openFrom -/
abbrev wJ (cy : ClassId) (j : Nat → Nat) (J : Mem) : va_W := [(j 0, .inr (1, [.ref (j 1), .ref (j 2), .ref (j 3), .ref (j 4), .int (J 0 0), .int (J 0 1), .int (J 0 2), .int (J 0 3)])), (j 1, .inl (cy, 64, .inl (J 1))), (j 2, .inl (cy, 64, .inl (J 2))), (j 3, .inl (cy, 64, .inl (J 3))), (j 4, .inl (cy, 64, .inl (J 4)))]
/-- Pages: keys, values, used, behind, ahead, holder, last; level, split, entries -/
abbrev wG (cy : ClassId) (g : Nat → Nat) (z0 : Nat) (P : Mem) : va_W := [(g 0, .inr (2, [.ref (g 1), .ref (g 2), .ref (g 3), .ref (g 4), .ref (g 5), .ref (g 6), .ref (g 7), .ref z0, .int (P 0 0), .int (P 0 1), .int (P 0 2)])), (g 1, .inl (cy, 512, .inl (P 1))), (g 2, .inl (cy, 512, .inl (P 2))), (g 3, .inl (cy, 128, .inl (P 3))), (g 4, .inl (cy, 128, .inl (P 4))), (g 5, .inl (cy, 128, .inl (P 5))), (g 6, .inl (cy, 128, .inl (P 6))), (g 7, .inl (cy, 64, .inl (P 7)))]
/-- PageBuckets: current, kept, journal; pagesRead, writesThatStand -/
abbrev wB (b : Nat → Nat) (g0 h0 j0 : Nat) (B : Mem) : va_W := [(b 0, .inr (3, [.ref g0, .ref h0, .ref j0, .int (B 0 0), .int (B 0 1)]))]
/-- the reference: keys, values, sizes, links, isFree, writeKey, writeValue, groups, heldKey, heldValue; level, split, entries, writes, keptWrites, groupCount, isOpen, openWrites, read, held -/
abbrev wM (cy cz : ClassId) (m : Nat → Nat) (M : Mem) : va_W := [(m 0, .inr (4, [.ref (m 1), .ref (m 2), .ref (m 3), .ref (m 4), .ref (m 5), .int (M 0 0), .int (M 0 1), .int (M 0 2), .ref (m 6), .ref (m 7), .int (M 0 3), .int (M 0 4), .ref (m 8), .int (M 0 5), .int (M 0 6), .int (M 0 7), .int (M 0 8), .ref (m 9), .ref (m 10), .int (M 0 9)])), (m 1, .inl (cy, 512, .inl (M 1))), (m 2, .inl (cy, 512, .inl (M 2))), (m 3, .inl (cy, 128, .inl (M 3))), (m 4, .inl (cy, 128, .inl (M 4))), (m 5, .inl (cz, 128, .inl (M 5))), (m 6, .inl (cy, 4200, .inl (M 6))), (m 7, .inl (cy, 4200, .inl (M 7))), (m 8, .inl (cy, 64, .inl (M 8))), (m 9, .inl (cy, 512, .inl (M 9))), (m 10, .inl (cy, 512, .inl (M 10)))]
/-- an index test, as the class writes it -/
def inI (N : Int32) (i : Int32) : Int32 := if i < 0 then 0 else if N ≤ i then 0 else 1
theorem inI_nI {N p : Nat} (hp : p < N) (hN : N < 2 ^ 31) : inI (nI N) (nI p) = 1 := by
  unfold inI
  rw [if_neg (nI_pos (by omega)), if_neg (nI_ge hp hN)]
theorem inI_NONE (N : Int32) : inI N vNONE = 0 := by
  unfold inI
  rw [if_pos (by decide)]
theorem inI_nat {N : Nat} {i : Int32} (hN : N < 2 ^ 31) (h : ¬ inI (nI N) i = 0) : ∃ j : Nat, j < N ∧ i = nI j := by
  unfold inI at h
  by_cases h1 : i < 0
  · rw [if_pos h1] at h; exact absurd rfl h
  · rw [if_neg h1] at h
    by_cases h2 : nI N ≤ i
    · rw [if_pos h2] at h; exact absurd rfl h
    · exact vp_in_of (n := N) (fun q => by
        rcases q with q | q
        · exact h1 q
        · obtain ⟨j, hj, rfl⟩ := nI_of h1
          rw [nI_clamp hj] at q
          exact h2 (nI_le q hj)) hN
/-- a number of a switch -/
theorem sw_of {a : Int32} {n : Nat} (h : 0 ≤ a.toInt ∧ a.toInt ≤ (n : Int)) (hn : n + 1 < 2 ^ 31) : ∃ j : Nat, j ≤ n ∧ a = nI j := by
  obtain ⟨h1, h2⟩ := h
  obtain ⟨j, hj, e⟩ := vp_in_of (x := a) (n := n + 1) (vp_in_iff.mpr ⟨h1, by omega⟩) hn
  exact ⟨j, by omega, e⟩
theorem sw_2 {j : Nat} (h : j ≤ 2) : j = 0 ∨ j = 1 ∨ j = 2 := by omega
theorem sw_10 {j : Nat} (h : j ≤ 10) : j = 0 ∨ j = 1 ∨ j = 2 ∨ j = 3 ∨ j = 4 ∨ j = 5 ∨ j = 6 ∨ j = 7 ∨ j = 8 ∨ j = 9 ∨ j = 10 := by omega
