/-! the journal: writes (a key, and a value or nothing: taken out), group sizes, the open group's size -/
abbrev LE : Type := Int32 × Option Int32
/-- the group sizes behind a write -/
def gsN (gs : List Nat) (op : Option Nat) : List Nat := match op with
  | none => gs ++ [1]
  | some _ => gs
def RJw (J : Mem) (w : List LE) : Prop := ∀ i, i < w.length → J 2 i = (w.getD i (0, none)).1 ∧ match (w.getD i (0, none)).2 with
  | some v => J 1 i = 0 ∧ J 3 i = v
  | none => J 1 i = 1
def RJ (J : Mem) (w : List LE) (gs : List Nat) (op : Option Nat) : Prop :=
  J 0 0 = nI w.length ∧ w.length = gs.sum + op.getD 0 ∧ w.length ≤ 64 ∧ RJw J w ∧ J 0 1 = nI gs.length ∧ (∀ g, g ∈ gs → 1 ≤ g) ∧ (∀ i, i < gs.length → J 4 i = nI (gs.take (i + 1)).sum) ∧ match op with
    | none => J 0 2 = 0
    | some _ => J 0 2 = 1 ∧ J 0 3 = nI gs.sum
theorem sum_ge : ∀ (l : List Nat), (∀ g, g ∈ l → 1 ≤ g) → l.length ≤ l.sum
  | [], _ => Nat.le_refl _
  | q :: l, h => by
    have h1 := h q List.mem_cons_self
    have h2 := sum_ge l (fun g hg => h g (List.mem_cons_of_mem _ hg))
    rw [List.sum_cons, List.length_cons]; omega
theorem RJ.gl {J : Mem} {w : List LE} {gs : List Nat} {op : Option Nat} (h : RJ J w gs op) : gs.length ≤ gs.sum ∧ gs.sum ≤ w.length ∧ w.length ≤ 64 := ⟨sum_ge gs h.2.2.2.2.2.1, by rw [h.2.1]; exact Nat.le_add_right _ _, h.2.2.1⟩
theorem RJ.bool {J : Mem} {w : List LE} {gs : List Nat} {op : Option Nat} (h : RJ J w gs op) : J 0 2 = 0 ∨ J 0 2 = 1 := by
  obtain ⟨-, -, -, -, -, -, -, h8⟩ := h
  cases op with
  | none => exact Or.inl h8
  | some m => exact Or.inr h8.1
theorem RJ.op {J : Mem} {w : List LE} {gs : List Nat} {op : Option Nat} (h : RJ J w gs op) : J 0 2 = if op.isSome then 1 else 0 := by
  obtain ⟨-, -, -, -, -, -, -, h8⟩ := h
  cases op with
  | none => exact h8
  | some m => exact h8.1
theorem getD_snoc_l {α : Type} {h : List α} {x d : α} {i : Nat} (hi : i < h.length) : (h ++ [x]).getD i d = h.getD i d := by
  rw [List.getD_eq_getElem?_getD, List.getElem?_append_left hi, ← List.getD_eq_getElem?_getD]
theorem getD_snoc_r {α : Type} {h : List α} {x d : α} : (h ++ [x]).getD h.length d = x := by simp
/-- what a write is, as the class notes it -/
def kOf (o : Option Int32) (kind value : Int32) : Prop := match o with
  | some v => kind = 0 ∧ value = v
  | none => kind = 1
theorem RJw_note {J : Mem} {w : List LE} {kind key value : Int32} {o : Option Int32} (h : RJw J w) (hk : kOf o kind value) {J1 : Mem} (h1 : J1 1 = upd (J 1) w.length kind) (h2 : J1 2 = upd (J 2) w.length key) (h3 : J1 3 = upd (J 3) w.length value) : RJw J1 (w ++ [(key, o)]) := by
  intro i hi
  rw [List.length_append] at hi
  rw [h1, h2, h3]
  by_cases e : i = w.length
  · subst e
    rw [getD_snoc_r, pk_us, pk_us, pk_us]
    refine ⟨rfl, ?_⟩
    cases o with
    | none => exact hk
    | some v => exact hk
  · have hi2 : i < w.length := by simp at hi; omega
    rw [getD_snoc_l hi2, pk_un e, pk_un e, pk_un e]
    exact h i hi2
abbrev ntP (J : Mem) (n : Nat) (kind key value : Int32) : Mem := ps (ps (ps (ps J 1 n kind) 2 n key) 3 n value) 0 0 (nI (n + 1))
theorem RJ_note_some {J : Mem} {w : List LE} {gs : List Nat} {m : Nat} {kind key value : Int32} {o : Option Int32} (h : RJ J w gs (some m)) (hl : w.length < 64) (hk : kOf o kind value) : RJ (ntP J w.length kind key value) (w ++ [(key, o)]) gs (some (m + 1)) := by
  obtain ⟨h1, h2, h3, h4, h5, h6, h7, h8⟩ := h
  have hlen : (w ++ [(key, o)]).length = w.length + 1 := by simp
  have h2 : w.length = gs.sum + m := h2
  exact ⟨by rw [hlen]; rfl, by rw [hlen]; show _ = gs.sum + (m + 1); omega, by omega, RJw_note h4 hk rfl rfl rfl, h5, h6, h7, h8⟩
theorem RJ_note_none {J : Mem} {w : List LE} {gs : List Nat} {kind key value : Int32} {o : Option Int32} (h : RJ J w gs none) (hl : w.length < 64) (hk : kOf o kind value) : RJ (ps (ps (ntP J w.length kind key value) 4 gs.length (nI (w.length + 1))) 0 1 (nI (gs.length + 1))) (w ++ [(key, o)]) (gs ++ [1]) none := by
  obtain ⟨h1, h2, h3, h4, h5, h6, h7, h8⟩ := h
  have hlen : (w ++ [(key, o)]).length = w.length + 1 := by simp
  have h2 : w.length = gs.sum + 0 := h2
  refine ⟨by rw [hlen]; rfl, by rw [hlen]; simp; omega, by omega, RJw_note h4 hk rfl rfl rfl, by simp; rfl, fun g hg => ?_, fun i hi => ?_, h8⟩
  · rcases List.mem_append.mp hg with q | q
    · exact h6 g q
    · rw [List.mem_singleton.mp q]; exact Nat.le_refl _
  · show upd (J 4) gs.length (nI (w.length + 1)) i = _
    rw [List.length_append] at hi
    by_cases e : i = gs.length
    · subst e
      rw [pk_us, List.take_of_length_le (by simp)]
      congr 1
      simp; omega
    · have hi2 : i < gs.length := by simp at hi; omega
      rw [pk_un e, List.take_append_of_le_length (by omega)]
      exact h7 i hi2
theorem RJ_open {J : Mem} {w : List LE} {gs : List Nat} (h : RJ J w gs none) : RJ (ps (ps J 0 2 1) 0 3 (nI w.length)) w gs (some 0) := by
  obtain ⟨h1, h2, h3, h4, h5, h6, h7, h8⟩ := h
  have h2 : w.length = gs.sum + 0 := h2
  exact ⟨h1, h2, h3, h4, h5, h6, h7, rfl, by rw [show w.length = gs.sum from h2]; rfl⟩
theorem RJ_close0 {J : Mem} {w : List LE} {gs : List Nat} (h : RJ J w gs (some 0)) : RJ (ps J 0 2 0) w gs none := by
  obtain ⟨h1, h2, h3, h4, h5, h6, h7, h8⟩ := h
  exact ⟨h1, h2, h3, h4, h5, h6, h7, rfl⟩
theorem RJ_close {J : Mem} {w : List LE} {gs : List Nat} {m : Nat} (h : RJ J w gs (some m)) (hm : 1 ≤ m) : RJ (ps (ps (ps J 4 gs.length (nI w.length)) 0 1 (nI (gs.length + 1))) 0 2 0) w (gs ++ [m]) none := by
  obtain ⟨h1, h2, h3, h4, h5, h6, h7, h8⟩ := h
  have h2 : w.length = gs.sum + m := h2
  refine ⟨h1, by simp; omega, h3, h4, by simp; rfl, fun g hg => ?_, fun i hi => ?_, rfl⟩
  · rcases List.mem_append.mp hg with q | q
    · exact h6 g q
    · rw [List.mem_singleton.mp q]; exact hm
  · show upd (J 4) gs.length (nI w.length) i = _
    rw [List.length_append] at hi
    by_cases e : i = gs.length
    · subst e
      rw [pk_us, List.take_of_length_le (by simp)]
      congr 1
      simp; omega
    · have hi2 : i < gs.length := by simp at hi; omega
      rw [pk_un e, List.take_append_of_le_length (by omega)]
      exact h7 i hi2
theorem RJ_drop {J : Mem} {w : List LE} {gs : List Nat} {m : Nat} (h : RJ J w gs (some m)) : RJ (ps (ps J 0 0 (nI gs.sum)) 0 2 0) (w.take gs.sum) gs none := by
  have hg := h.gl
  obtain ⟨h1, h2, h3, h4, h5, h6, h7, h8⟩ := h
  have hl : (w.take gs.sum).length = gs.sum := by rw [List.length_take]; omega
  refine ⟨by rw [hl]; rfl, by rw [hl]; rfl, by omega, fun i hi => ?_, h5, h6, h7, rfl⟩
  rw [hl] at hi
  have e : (w.take gs.sum).getD i (0, none) = w.getD i (0, none) := by
    rw [List.getD_eq_getElem?_getD, List.getElem?_take_of_lt hi, ← List.getD_eq_getElem?_getD]
  rw [e]
  exact h4 i (by omega)
theorem RJ_clear (J : Mem) : RJ (ps (ps (ps J 0 0 0) 0 1 0) 0 2 0) [] [] none := ⟨rfl, rfl, by decide, fun i hi => absurd hi (Nat.not_lt_zero _), rfl, fun g hg => (by cases hg), fun i hi => absurd hi (Nat.not_lt_zero _), rfl⟩
