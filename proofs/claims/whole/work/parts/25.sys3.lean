/-! answers, case by case -/
theorem sum_take_le : ∀ (l : List Nat) (n : Nat), (l.take n).sum ≤ l.sum
  | [], n => by simp
  | q :: l, 0 => Nat.zero_le _
  | q :: l, n + 1 => by
    have := sum_take_le l n
    rw [List.take_succ_cons, List.sum_cons, List.sum_cons]; omega
theorem n32_cases (a : Int32) : (a < 0 ∧ n32 a = none) ∨ ∃ j, j < 2 ^ 31 ∧ a = nI j ∧ n32 a = some j := by
  by_cases h : a < 0
  · exact Or.inl ⟨h, n32_neg h⟩
  · obtain ⟨j, hj, rfl⟩ := nI_of h
    exact Or.inr ⟨j, hj, rfl, n32_nI hj⟩
theorem aBucket_out {A : AS} {p what : Int32} (hn : A.nb ≤ 64) (h : p < 0 ∨ ¬ p < nI A.nb) : aBucket A p what = vBAD := by
  unfold aBucket
  rcases n32_cases p with ⟨h1, e⟩ | ⟨j, hj, rfl, e⟩
  · rw [e]
  · rw [e]
    have h2 : ¬ j < A.nb := fun w => by
      rcases h with h | h
      · exact nI_pos hj h
      · exact h (nI_lt w (by omega))
    rcases n32_cases what with ⟨h3, e2⟩ | ⟨k, hk, rfl, e2⟩
    · rw [e2]
    · rw [e2]; show (if j < A.nb then _ else vBAD) = vBAD; rw [if_neg h2]
theorem aBucket_in {A : AS} {j k : Nat} (hn : A.nb ≤ 64) (hj : j < A.nb) (hk : k < 2 ^ 31) : aBucket A (nI j) (nI k) = if k = 0 then nI (A.cnt j) else if k = 1 then nI ((A.tl j).length + 1) else if k = 2 then nI (A.la j) else vBAD := by
  unfold aBucket
  rw [n32_nI (by omega), n32_nI hk]
  show (if j < A.nb then _ else vBAD) = _
  rw [if_pos hj]
theorem big_sw {what : Int32} {n : Nat} (hn : n < 2 ^ 31) (h : ¬ (0 ≤ what.toInt ∧ what.toInt ≤ (n : Int))) : n32 what = none ∨ ∃ k, n < k ∧ k < 2 ^ 31 ∧ what = nI k := by
  rcases n32_cases what with ⟨h3, e2⟩ | ⟨k, hk, rfl, e2⟩
  · exact Or.inl e2
  · refine Or.inr ⟨k, ?_, hk, rfl⟩
    rw [nI_toInt hk] at h
    omega
theorem aBucket_sw {A : AS} {p what : Int32} (h : ¬ (0 ≤ what.toInt ∧ what.toInt ≤ ((2 : Nat) : Int))) : aBucket A p what = vBAD := by
  unfold aBucket
  rcases big_sw (by decide) h with e | ⟨k, h1, h2, rfl⟩
  · rw [e]; cases n32 p <;> rfl
  · rw [n32_nI h2]
    cases n32 p with
    | none => rfl
    | some b =>
      show (if b < A.nb then (if k = 0 then _ else if k = 1 then _ else if k = 2 then _ else vBAD) else vBAD) = vBAD
      rw [if_neg (show ¬ k = 0 by omega), if_neg (show ¬ k = 1 by omega), if_neg (show ¬ k = 2 by omega)]; split <;> rfl
theorem aPage_out {A : AS} {p what : Int32} (h : inI 128 p = 0) : aPage A p what = vBAD := by
  unfold aPage
  rcases n32_cases p with ⟨h1, e⟩ | ⟨j, hj, rfl, e⟩
  · rw [e]
  · have h2 : ¬ j < 128 := fun w => by rw [show inI 128 (nI j) = 1 from inI_nI (N := 128) w (by decide)] at h; exact absurd h (by decide)
    rw [e]
    rcases n32_cases what with ⟨h3, e2⟩ | ⟨k, hk, rfl, e2⟩
    · rw [e2]
    · rw [e2]; show (if j < 128 then _ else vBAD) = vBAD; rw [if_neg h2]
theorem aPage_in {A : AS} {j k : Nat} (hj : j < 128) (hk : k < 2 ^ 31) : aPage A (nI j) (nI k) = if k = 0 then nI (A.sz j) else if k = 1 then A.lk j else if k = 2 then ocI (A.own j) else vBAD := by
  unfold aPage
  rw [n32_nI (by omega), n32_nI hk]
  show (if j < 128 then _ else vBAD) = _
  rw [if_pos hj]
theorem aPage_sw {A : AS} {p what : Int32} (h : ¬ (0 ≤ what.toInt ∧ what.toInt ≤ ((2 : Nat) : Int))) : aPage A p what = vBAD := by
  unfold aPage
  rcases big_sw (by decide) h with e | ⟨k, h1, h2, rfl⟩
  · rw [e]; cases n32 p <;> rfl
  · rw [n32_nI h2]
    cases n32 p with
    | none => rfl
    | some b =>
      show (if b < 128 then (if k = 0 then _ else if k = 1 then _ else if k = 2 then _ else vBAD) else vBAD) = vBAD
      rw [if_neg (show ¬ k = 0 by omega), if_neg (show ¬ k = 1 by omega), if_neg (show ¬ k = 2 by omega)]; split <;> rfl
theorem aCount_in {T : TS} {k : Nat} (hk : k < 2 ^ 31) : aCount T (nI k) = if k = 0 then T.E else if k = 1 then nI T.A.nb else if k = 2 then nI T.A.L else if k = 3 then nI T.A.S else if k = 4 then nI T.A.fc else if k = 5 then nI T.w.length else if k = 6 then nI T.gs.length else if k = 7 then (if T.op.isSome then 1 else 0) else if k = 8 then T.rd else if k = 9 then nI (T.kl.length + T.w.length) else if k = 10 then nI T.A.lng else vBAD := by
  unfold aCount; rw [n32_nI hk]
theorem aCount_sw {T : TS} {what : Int32} (h : ¬ (0 ≤ what.toInt ∧ what.toInt ≤ ((10 : Nat) : Int))) : aCount T what = vBAD := by
  rcases big_sw (by decide) h with e | ⟨k, h1, h2, rfl⟩
  · unfold aCount; rw [e]
  · rw [aCount_in h2]
    repeat rw [if_neg (by omega)]
/-- cell: which arguments are wrong -/
theorem aCell_bad {A : AS} {p i what : Int32} (h : inI 128 p = 0 ∨ i < 0 ∨ 4 ≤ i ∨ what < 0 ∨ 1 < what) : aCell A p i what = vBAD := by
  unfold aCell
  rcases n32_cases p with ⟨h1, e⟩ | ⟨a, ha, rfl, e⟩
  · rw [e]
  · rcases n32_cases i with ⟨h3, e2⟩ | ⟨b, hb, rfl, e2⟩
    · rw [e, e2]
    · rcases n32_cases what with ⟨h5, e3⟩ | ⟨c, hc, rfl, e3⟩
      · rw [e, e2, e3]
      · rw [e, e2, e3]
        show (if a < 128 ∧ b < 4 ∧ c ≤ 1 then _ else vBAD) = vBAD
        rw [if_neg (fun w => ?_)]
        obtain ⟨w1, w2, w3⟩ := w
        rcases h with h | h | h | h | h
        · rw [show inI 128 (nI a) = 1 from inI_nI (N := 128) w1 (by decide)] at h; exact absurd h (by decide)
        · exact nI_pos hb h
        · exact nI_ge w2 (by decide) h
        · exact nI_pos hc h
        · have := (nI_ltI (a := 1) (by decide) hc).mp h; omega
theorem aCell_in {A : AS} {a b c : Nat} (ha : a < 128) (hb : b < 4) (hc : c ≤ 1) : aCell A (nI a) (nI b) (nI c) = if b < A.sz a then (if c = 0 then A.ks (a * 4 + b) else A.vs (a * 4 + b)) else vNO := by
  unfold aCell
  rw [n32_nI (by omega), n32_nI (by omega), n32_nI (by omega)]
  show (if a < 128 ∧ b < 4 ∧ c ≤ 1 then _ else vBAD) = _
  rw [if_pos ⟨ha, hb, hc⟩]
theorem aEntry_bad {A : AS} {i : Int32} (h : ¬ 0 ≤ i) : aEntry A i = vBAD := by
  unfold aEntry; rw [n32_neg (Int32.not_le.mp h)]
theorem aEntry_in {A : AS} {i : Nat} (h : i < 2 ^ 31) : aEntry A (nI i) = match A.ent i with | none => vNONE | some c => A.vs c := by
  unfold aEntry; rw [n32_nI h]; dsimp only; cases A.ent i <;> rfl
theorem aStop_bad {T : TS} {n : Int32} (h : ¬ 0 ≤ n) : aStop T n = (vBAD, T) := by
  unfold aStop; rw [n32_neg (Int32.not_le.mp h)]
theorem aStop_in {T : TS} {n : Nat} (h : n < 2 ^ 31) : aStop T (nI n) = (nI (T.w.length - (T.gs.take n).sum), (T.kl ++ T.w.take (T.gs.take n).sum, [], [], none, T.rd)) := by
  unfold aStop; rw [n32_nI h]
theorem RX.lk {T : TS} {u : M5} (h : RX T u) {q : Nat} (hq : q < 128) : u.2.1 4 q = T.A.lk q := lk_of h.1.1.1 h.1.1.2.2.1 h.1.1.2.2.2.1 hq
theorem RX.valE {T : TS} {u : M5} (h : RX T u) {i c : Nat} (he : T.A.ent i = some c) : c < 512 ∧ u.2.1 2 c = T.A.vs c := by
  obtain ⟨q, j, h1, h2, rfl, h4⟩ := ent_some h.1.1.1 h.1.2.1 he
  exact ⟨h4, h.1.1.val h1 h2⟩
theorem OKL_pre {kl w : List LE} (h : OKL (kl ++ w)) (s : Nat) : OKL (kl ++ w.take s) := by
  have := OKL_take h (kl.length + s)
  rw [List.take_append, List.take_of_length_le (by omega), Nat.add_sub_cancel_left] at this
  exact this
